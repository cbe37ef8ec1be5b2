/-! ===== Wanderers, Acts ===== -/
def cHas (M : g_M) (x : Int32) : Bool := decide (0 ≤ x ∧ x < M 16 2) && decide (M (18 + 3 * x.toNatClampNeg) 1 = 0)
set_option maxHeartbeats 4000000 in
set_option maxRecDepth 100000 in
theorem t_X9_has (G : g_G) (M : g_M) (L : g_L) {x : Int32} {e : Nat} (he : M 16 2 = nI e) (h12 : e ≤ 12) : mt G yX9_has (Cond.code yX9_has cX9_has 2 (some .boolean)) 0 [.ref (G.1 + 16), .int x] M L (qI fun v M' L' => v = bI (cHas M x) ∧ M = M' ∧ L = L') := by
  refine mt_of (by decide) rfl (Nat.le_of_ble_eq_true rfl) [(0, .ref (G.1 + 16)), (1, .int x)] rfl (fun X hG C hQ => ?_)
  subst hG
  refine wx_iload_n C 1 dX9_has_0 rfl rfl ?_
  refine wx_if_lt C 28 dX9_has_1 (by decide) (fun c1 => ?_) (fun c1 => ?_)
  · refine wx_iconst C 0 dX9_has_28 (by decide) ?_
    refine wx_zret C hQ dX9_has_29 (by decide) ?_
    refine ⟨_, rfl, ?_, rfl, rfl⟩
    unfold cHas
    first
    | (rw [decide_eq_false (fun z => absurd c1 (Int32.not_lt.mpr z.1)), Bool.false_and]; rfl)
    | (rw [decide_eq_false (fun z => absurd c9 (Int32.not_le.mpr z.2)), Bool.false_and]; rfl)
    | (rw [nI_clamp (by omega), decide_eq_false c21, Bool.and_false]; rfl)
  · refine wx_iload_n C 1 dX9_has_4 rfl rfl ?_
    refine wx_aload_n C 0 dX9_has_5 rfl rfl ?_
    refine gf_X9_22 C dX9_has_6 ?_
    refine wx_icmp_ge C 28 dX9_has_9 (by decide) (fun c9 => ?_) (fun c9 => ?_)
    · refine wx_iconst C 0 dX9_has_28 (by decide) ?_
      refine wx_zret C hQ dX9_has_29 (by decide) ?_
      refine ⟨_, rfl, ?_, rfl, rfl⟩
      unfold cHas
      first
      | (rw [decide_eq_false (fun z => absurd c1 (Int32.not_lt.mpr z.1)), Bool.false_and]; rfl)
      | (rw [decide_eq_false (fun z => absurd c9 (Int32.not_le.mpr z.2)), Bool.false_and]; rfl)
      | (rw [nI_clamp (by omega), decide_eq_false c21, Bool.and_false]; rfl)
    · obtain ⟨p, hp, rfl⟩ : ∃ p, p < e ∧ x = nI p := in_of (by omega) (Int32.not_lt.mp c1) (by rw [← he]; exact Int32.not_le.mp c9)
      refine wx_aload_n C 0 dX9_has_12 rfl rfl ?_
      refine gf_X9_11 C dX9_has_13 ?_
      refine wx_iload_n C 1 dX9_has_16 rfl rfl ?_
      refine wx_aaldW C p dX9_has_17 rfl (by omega) ?_
      refine gf_X9_26 C (by omega) dX9_has_18 ?_
      refine wx_if_ne C 28 dX9_has_21 (by decide) (fun c21 => ?_) (fun c21 => ?_)
      · refine wx_iconst C 0 dX9_has_28 (by decide) ?_
        refine wx_zret C hQ dX9_has_29 (by decide) ?_
        refine ⟨_, rfl, ?_, rfl, rfl⟩
        unfold cHas
        first
        | (rw [decide_eq_false (fun z => absurd c1 (Int32.not_lt.mpr z.1)), Bool.false_and]; rfl)
        | (rw [decide_eq_false (fun z => absurd c9 (Int32.not_le.mpr z.2)), Bool.false_and]; rfl)
        | (rw [nI_clamp (by omega), decide_eq_false c21, Bool.and_false]; rfl)
      · refine wx_iconst C 1 dX9_has_24 (by decide) ?_
        refine wx_goto C 29 dX9_has_25 (by decide) ?_
        refine wx_zret C hQ dX9_has_29 (by decide) ?_
        refine ⟨_, rfl, ?_, rfl, rfl⟩
        unfold cHas
        rw [nI_clamp (by omega), decide_eq_true c21, decide_eq_true ⟨Int32.not_lt.mp c1, Int32.not_le.mp c9⟩]
        rfl
theorem cHas_t {M : g_M} {x : Int32} {e : Nat} (he : M 16 2 = nI e) (h12 : e ≤ 12) (h : cHas M x = true) : ∃ p, p < e ∧ x = nI p ∧ M (18 + 3 * p) 1 = 0 := by
  unfold cHas at h
  rw [Bool.and_eq_true, decide_eq_true_eq, decide_eq_true_eq] at h
  obtain ⟨⟨h1, h2⟩, h3⟩ := h
  rw [he] at h2
  obtain ⟨p, hp, rfl⟩ := in_of (by omega) h1 h2
  rw [nI_clamp (by omega)] at h3
  exact ⟨p, hp, rfl, h3⟩
theorem cHas_n {M : g_M} {p e : Nat} (he : M 16 2 = nI e) (h12 : e ≤ 12) (hp : p < e) : cHas M (nI p) = decide (M (18 + 3 * p) 1 = 0) := by
  unfold cHas
  rw [nI_clamp (by omega), he, decide_eq_true (show 0 ≤ nI p ∧ nI p < nI e from ⟨nI_pos' (by omega), nI_lt hp (by omega)⟩), Bool.true_and]
set_option maxHeartbeats 4000000 in
set_option maxRecDepth 100000 in
theorem t_X9_add (G : g_G) (M : g_M) (L : g_L) (nm : Int32) {e : Nat} (he : M 16 2 = nI e) (h12 : e ≤ 12) : mt G yX9_add (Cond.code yX9_add cX9_add 3 (some .int)) 0 [.ref (G.1 + 16), .int nm] M L (qI fun v M' L' => L = L' ∧ (e = 12 ∧ v = -4 ∧ M = M' ∨ e < 12 ∧ v = nI e ∧ M' = g_st (g_st M (18 + 3 * e) 0 nm) 16 2 (nI (e + 1)))) := by
  refine mt_of (by decide) rfl (Nat.le_of_ble_eq_true rfl) [(0, .ref (G.1 + 16)), (1, .int nm)] rfl (fun X hG C hQ => ?_)
  subst hG
  refine wx_aload_n C 0 dX9_add_0 rfl rfl ?_
  refine gf_X9_22 C dX9_add_1 ?_
  refine wx_bipush C 12 dX9_add_4 (by decide) ?_
  refine wx_icmp_lt C 12 dX9_add_6 (by decide) (fun c6 => ?_) (fun c6 => ?_)
  · have hlt : e < 12 := by
      rw [he] at c6
      exact (nI_ltI (by omega) (by omega)).mp c6
    refine wx_aload_n C 0 dX9_add_12 rfl rfl ?_
    refine gf_X9_22 C dX9_add_13 ?_
    refine wx_istore_n C [1, 2, 0] [(0, .ref (X.1.1 + 16)), (1, .int nm), (2, .int (M 16 2))] dX9_add_16 rfl (by decide) rfl ?_
    refine wx_aload_n C 0 dX9_add_17 rfl rfl ?_
    refine gf_X9_11 C dX9_add_18 ?_
    refine wx_iload_n C 2 dX9_add_21 rfl rfl ?_
    refine wx_aaldW C e dX9_add_22 he hlt ?_
    refine wx_iload_n C 1 dX9_add_23 rfl rfl ?_
    refine pf_X9_30 C hlt dX9_add_24 ?_
    refine wx_aload_n C 0 dX9_add_27 rfl rfl ?_
    refine wx_dup C dX9_add_28 rfl ?_
    refine gf_X9_22 C dX9_add_29 ?_
    refine wx_iconst C 1 dX9_add_32 (by decide) ?_
    refine wx_iadd C dX9_add_33 ?_
    refine pf_X9_22 C dX9_add_34 ?_
    refine wx_iload_n C 2 dX9_add_37 rfl rfl ?_
    refine wx_iret C hQ dX9_add_38 ?_
    refine ⟨_, rfl, rfl, Or.inr ⟨hlt, he, ?_⟩⟩
    have e1 : g_st M (18 + 3 * e) 0 nm 16 2 = nI e := by rw [g_st_ap, if_neg (by omega)]; exact he
    rw [e1, nI_1]
  · refine wx_bipush C (-4) dX9_add_9 (by decide) ?_
    refine wx_iret C hQ dX9_add_11 ?_
    refine ⟨_, rfl, rfl, Or.inl ⟨?_, rfl, rfl⟩⟩
    rw [he] at c6
    exact Nat.le_antisymm h12 (Nat.le_of_not_lt (fun h => c6 ((nI_ltI (a := e) (b := 12) (by omega) (by decide)).mpr h)))
set_option maxHeartbeats 4000000 in
set_option maxRecDepth 100000 in
theorem lp_X9_notGone {X : g_X} {Qr : Option Value → g_M → g_L → Prop} (C : Cx X cX9_notGone 3 RX9 (some .int) 1) (hQ : Rx X Qr) {M : g_M} {L : g_L} {b : Nat} (hb : M 16 2 = nI b) (h12 : b ≤ 12) (hp : Qr (some (.int (nI (cn (fun p => decide (M (18 + 3 * p) 1 = 0)) b)))) M L) : ∀ (n i : Nat), i ≤ b → b < i + n → wx X M L 4 [(0, .ref (X.1.1 + 16)), (1, .int (nI (cn (fun p => decide (M (18 + 3 * p) 1 = 0)) i))), (2, .int (nI i))] [] := by
  intro n
  induction n with
  | zero =>
    intro i h1 h2
    exact absurd h2 (by omega)
  | succ n ih =>
    intro i hi0 hin
    refine wx_iload_n C 2 dX9_notGone_4 rfl rfl ?_
    refine wx_aload_n C 0 dX9_notGone_5 rfl rfl ?_
    refine gf_X9_22 C dX9_notGone_6 ?_
    refine wx_icmp_ge C 29 dX9_notGone_9 (by decide) (fun c9 => ?_) (fun c9 => ?_)
    · have hib : i = b := by
        rw [hb] at c9
        exact Nat.le_antisymm hi0 ((nI_leI (by omega) (by omega)).mp c9)
      rw [hib]
      refine wx_iload_n C 1 dX9_notGone_29 rfl rfl ?_
      refine wx_iret C hQ dX9_notGone_30 ?_
      exact hp
    · have hi : i < b := by
        rw [hb] at c9
        exact Nat.lt_of_not_le (fun h => c9 ((nI_leI (by omega) (by omega)).mpr h))
      refine wx_aload_n C 0 dX9_notGone_12 rfl rfl ?_
      refine wx_iload_n C 2 dX9_notGone_13 rfl rfl ?_
      refine ca_X9_33 C (rest := []) (t_X9_has X.1 M L (x := nI i) hb h12) (by decide) rfl (by decide) rfl rfl (Nat.le_of_ble_eq_true rfl) dX9_notGone_14 (kI fun r14 M14 L14 q14 => ?_)
      obtain ⟨rfl, rfl, rfl⟩ := q14
      rw [cHas_n hb h12 hi]
      refine wx_if_eq C 23 dX9_notGone_17 (by decide) (fun c17 => ?_) (fun c17 => ?_)
      · refine wx_iinc C (v := (nI (i + 1))) 2 [1, 2, 0] [(0, .ref (X.1.1 + 16)), (1, .int (nI (cn (fun p => decide (M (18 + 3 * p) 1 = 0)) i))), (2, .int (nI (i + 1)))] dX9_notGone_23 rfl (nI_1 _) (by decide) rfl ?_
        refine wx_goto C 4 dX9_notGone_26 (by decide) ?_
        have h := ih (i + 1) (by omega) (by omega)
        simp only [cn] at h
        rw [if_neg (by rw [bI_0] at c17; simpa using c17)] at h
        exact h
      · refine wx_iinc C (v := (nI ((cn (fun p => decide (M (18 + 3 * p) 1 = 0)) i) + 1))) 1 [1, 0, 2] [(0, .ref (X.1.1 + 16)), (1, .int (nI ((cn (fun p => decide (M (18 + 3 * p) 1 = 0)) i) + 1))), (2, .int (nI i))] dX9_notGone_20 rfl (nI_1 _) (by decide) rfl ?_
        refine wx_iinc C (v := (nI (i + 1))) 2 [1, 2, 0] [(0, .ref (X.1.1 + 16)), (1, .int (nI ((cn (fun p => decide (M (18 + 3 * p) 1 = 0)) i) + 1))), (2, .int (nI (i + 1)))] dX9_notGone_23 rfl (nI_1 _) (by decide) rfl ?_
        refine wx_goto C 4 dX9_notGone_26 (by decide) ?_
        have h := ih (i + 1) (by omega) (by omega)
        simp only [cn] at h
        rw [if_pos (by rw [bI_n0] at c17; simpa using c17)] at h
        exact h
set_option maxHeartbeats 4000000 in
set_option maxRecDepth 100000 in
theorem t_X9_notGone (G : g_G) (M : g_M) (L : g_L) {b : Nat} (hb : M 16 2 = nI b) (h12 : b ≤ 12) : mt G yX9_notGone (Cond.code yX9_notGone cX9_notGone 3 (some .int)) 1 [.ref (G.1 + 16)] M L (qI fun v M' L' => v = nI (cn (fun p => decide (M (18 + 3 * p) 1 = 0)) b) ∧ M = M' ∧ L = L') := by
  refine mt_of (by decide) rfl (Nat.le_of_ble_eq_true rfl) [(0, .ref (G.1 + 16))] rfl (fun X hG C hQ => ?_)
  subst hG
  refine wx_iconst C 0 dX9_notGone_0 (by decide) ?_
  refine wx_istore_n C [1, 0] [(0, .ref (X.1.1 + 16)), (1, .int 0)] dX9_notGone_1 rfl (by decide) rfl ?_
  refine wx_iconst C 0 dX9_notGone_2 (by decide) ?_
  refine wx_istore_n C [1, 2, 0] [(0, .ref (X.1.1 + 16)), (1, .int 0), (2, .int 0)] dX9_notGone_3 rfl (by decide) rfl ?_
  exact lp_X9_notGone C hQ hb h12 ⟨_, rfl, rfl, rfl, rfl⟩ (b + 1) 0 (by omega) (by omega)
/-- a path's row is told anew, its dots put right: first those of the old row are free -/
def rpl (M : g_M) (p l l2 : Nat) (r r2 : Nat → Nat) (f : Nat → Int32) : g_M := pa (g_sr (pa M r (-1) l) (19 + 3 * p) l2 f) r2 (nI p) l2
set_option maxHeartbeats 4000000 in
set_option maxRecDepth 100000 in
theorem t_X9_replaceRow (G : g_G) (M : g_M) (L : g_L) {x : Int32} {p j l l2 : Nat} {r r2 : Nat → Nat} (hx : x = nI p) (hp : p < 12) (h1 : rok M (19 + 3 * p) l r) (h2 : rok M j l2 r2) (hj : j ≠ 19 + 3 * p) : mt G yX9_replaceRow (Cond.code yX9_replaceRow cX9_replaceRow 4 none) 3 [.ref (G.1 + 16), .int x, .ref (G.1 + j)] M L (qV fun M' L' => L = L' ∧ M' = rpl M p l l2 r r2 (M (j + 1))) := by
  refine mt_of (by decide) rfl (Nat.le_of_ble_eq_true rfl) [(0, .ref (G.1 + 16)), (1, .int x), (2, .ref (G.1 + j))] rfl (fun X hG C hQ => ?_)
  subst hG
  have hj6 := g_row_6 h2.1
  have hw6 := g_row_6 h1.1
  refine wx_aload_n C 0 dX9_replaceRow_0 rfl rfl ?_
  refine gf_X9_11 C dX9_replaceRow_1 ?_
  refine wx_iload_n C 1 dX9_replaceRow_4 rfl rfl ?_
  refine wx_aaldW C p dX9_replaceRow_5 hx hp ?_
  refine gf_X9_37 C hp dX9_replaceRow_6 ?_
  refine wx_astore_n C [1, 2, 3, 0] [(0, .ref (X.1.1 + 16)), (1, .int x), (2, .ref (X.1.1 + j)), (3, .ref (X.1.1 + (19 + 3 * p)))] dX9_replaceRow_9 rfl (by decide) rfl ?_
  refine wx_aload_n C 0 dX9_replaceRow_10 rfl rfl ?_
  refine gf_X9_17 C dX9_replaceRow_11 ?_
  refine wx_aload_n C 3 dX9_replaceRow_14 rfl rfl ?_
  refine wx_iconst C (-1) dX9_replaceRow_15 (by decide) ?_
  refine ca_X9_41 C (rest := []) (t_X7_putAll X.1 M L (-1) r h1.1 h1.2.1 h1.2.2.1 h1.2.2.2) (by decide) rfl (by decide) rfl rfl (Nat.le_of_ble_eq_true rfl) dX9_replaceRow_16 (kV fun M16 L16 q16 => ?_)
  obtain ⟨rfl, rfl⟩ := q16
  refine wx_aload_n C 3 dX9_replaceRow_19 rfl rfl ?_
  refine wx_aload_n C 2 dX9_replaceRow_20 rfl rfl ?_
  refine ca_X9_47 C (rest := []) (t_X6_become X.1 (pa M r (-1) l) L h1.1 h2.1 hj (by rw [pa_out _ _ _ _ hj6.1]; exact h2.2.1) h2.2.2.1) (g_row_lt1 (rw_w hp)) (sh_row (rw_w hp) _ _) (by decide) rfl rfl (Nat.le_of_ble_eq_true rfl) dX9_replaceRow_21 (kV fun M21 L21 q21 => ?_)
  obtain ⟨rfl, rfl⟩ := q21
  have ej : pa M r (-1) l (j + 1) = M (j + 1) := by funext b; exact pa_out _ _ _ _ hj6.2 _
  rw [ej]
  refine wx_aload_n C 0 dX9_replaceRow_24 rfl rfl ?_
  refine gf_X9_17 C dX9_replaceRow_25 ?_
  refine wx_aload_n C 3 dX9_replaceRow_28 rfl rfl ?_
  refine wx_iload_n C 1 dX9_replaceRow_29 rfl rfl ?_
  refine ca_X9_41 C (rest := []) (t_X7_putAll X.1 (g_sr (pa M r (-1) l) (19 + 3 * p) l2 (M (j + 1))) L x r2 h1.1 (g_sr_len _ _ _ _) h2.2.2.1 (fun i hi => by rw [g_sr_at _ _ _ _ hi]; exact h2.2.2.2 i hi)) (by decide) rfl (by decide) rfl rfl (Nat.le_of_ble_eq_true rfl) dX9_replaceRow_30 (kV fun M30 L30 q30 => ?_)
  obtain ⟨rfl, rfl⟩ := q30
  refine wx_vret C hQ dX9_replaceRow_33 ?_
  exact ⟨rfl, rfl, by rw [hx]; rfl⟩
set_option maxHeartbeats 4000000 in
set_option maxRecDepth 100000 in
theorem t_X9_bringBack (G : g_G) (M : g_M) (L : g_L) {x : Int32} {p l : Nat} {r : Nat → Nat} (hx : x = nI p) (hp : p < 12) (h1 : rok M (19 + 3 * p) l r) : mt G yX9_bringBack (Cond.code yX9_bringBack cX9_bringBack 2 none) 1 [.ref (G.1 + 16), .int x] M L (qV fun M' L' => L = L' ∧ M' = pa (g_st M (18 + 3 * p) 1 0) r (nI p) l) := by
  refine mt_of (by decide) rfl (Nat.le_of_ble_eq_true rfl) [(0, .ref (G.1 + 16)), (1, .int x)] rfl (fun X hG C hQ => ?_)
  subst hG
  refine wx_aload_n C 0 dX9_bringBack_0 rfl rfl ?_
  refine gf_X9_11 C dX9_bringBack_1 ?_
  refine wx_iload_n C 1 dX9_bringBack_4 rfl rfl ?_
  refine wx_aaldW C p dX9_bringBack_5 hx hp ?_
  refine wx_iconst C 0 dX9_bringBack_6 (by decide) ?_
  refine pf_X9_26 C hp (by decide) (by decide) dX9_bringBack_7 ?_
  refine wx_aload_n C 0 dX9_bringBack_10 rfl rfl ?_
  refine gf_X9_17 C dX9_bringBack_11 ?_
  refine wx_aload_n C 0 dX9_bringBack_14 rfl rfl ?_
  refine gf_X9_11 C dX9_bringBack_15 ?_
  refine wx_iload_n C 1 dX9_bringBack_18 rfl rfl ?_
  refine wx_aaldW C p dX9_bringBack_19 hx hp ?_
  refine gf_X9_37 C hp dX9_bringBack_20 ?_
  refine wx_iload_n C 1 dX9_bringBack_23 rfl rfl ?_
  refine ca_X9_41 C (rest := []) (t_X7_putAll X.1 (g_st M (18 + 3 * p) 1 0) L x r h1.1 (by rw [g_st_ap, if_neg (by omega)]; exact h1.2.1) h1.2.2.1 (fun i hi => by rw [g_st_ap, if_neg (by omega)]; exact h1.2.2.2 i hi)) (by decide) rfl (by decide) rfl rfl (Nat.le_of_ble_eq_true rfl) dX9_bringBack_24 (kV fun M24 L24 q24 => ?_)
  obtain ⟨rfl, rfl⟩ := q24
  refine wx_vret C hQ dX9_bringBack_27 ?_
  exact ⟨rfl, rfl, by rw [hx]⟩
/-! Acts -/
def actF (M : g_M) (nx : Nat) (x : Int32) (l : Nat) (f : Nat → Int32) : g_M := g_sr (g_st (g_st (g_st M (56 + 3 * nx) 0 x) (56 + 3 * nx) 1 0) (56 + 3 * nx) 2 (-1)) (57 + 3 * nx) l f
def actK (M : g_M) (nx kp : Nat) (x : Int32) (l : Nat) (f : Nat → Int32) : g_M := g_st (g_st (actF M nx x l f) 54 1 (nI ((nx + 1) % 30))) 54 2 (nI (min (kp + 1) 30))
theorem min30 {k : Nat} (h : k ≤ 30) : (if (30 : Int32) < nI (k + 1) then 30 else nI (k + 1)) = nI (min (k + 1) 30) := by
  by_cases h2 : k = 30
  · subst h2; decide
  · rw [if_neg (show ¬ (30 : Int32) < nI (k + 1) from nI_nlt (a := 30) (b := k + 1) (by omega) (by omega)), Nat.min_eq_left (by omega)]
set_option maxHeartbeats 4000000 in
set_option maxRecDepth 100000 in
theorem t_X1_keep (G : g_G) (M : g_M) (L : g_L) {x : Int32} {nx kp j l : Nat} (hn : M 54 1 = nI nx) (hnx : nx < 30) (hk : M 54 2 = nI kp) (hkp : kp ≤ 30) (hj : g_row j) (hl : M j 1 = nI l) (h16 : l ≤ 16) (hne : j ≠ 57 + 3 * nx) : mt G yX1_keep (Cond.code yX1_keep cX1_keep 4 (some (.object "NightDots$Act"))) 3 [.ref (G.1 + 54), .int x, .ref (G.1 + j)] M L (qR G.1 fun k M' L' => L = L' ∧ k = 56 + 3 * nx ∧ M' = actK M nx kp x l (M (j + 1))) := by
  refine mt_of (by decide) rfl (Nat.le_of_ble_eq_true rfl) [(0, .ref (G.1 + 54)), (1, .int x), (2, .ref (G.1 + j))] rfl (fun X hG C hQ => ?_)
  subst hG
  have hj1 : j ≠ 56 + 3 * nx ∧ j + 1 ≠ 56 + 3 * nx := by
    rcases hj with rfl | rfl | ⟨p, hp, rfl⟩ | ⟨i, hi, rfl⟩ <;> omega
  refine wx_aload_n C 0 dX1_keep_0 rfl rfl ?_
  refine gf_X1_11 C dX1_keep_1 ?_
  refine wx_aload_n C 0 dX1_keep_4 rfl rfl ?_
  refine gf_X1_18 C dX1_keep_5 ?_
  refine wx_aaldA C nx dX1_keep_8 hn hnx ?_
  refine wx_astore_n C [1, 2, 3, 0] [(0, .ref (X.1.1 + 54)), (1, .int x), (2, .ref (X.1.1 + j)), (3, .ref (X.1.1 + (56 + 3 * nx)))] dX1_keep_9 rfl (by decide) rfl ?_
  refine wx_aload_n C 3 dX1_keep_10 rfl rfl ?_
  refine wx_iload_n C 1 dX1_keep_11 rfl rfl ?_
  refine pf_X1_22 C hnx dX1_keep_12 ?_
  refine wx_aload_n C 3 dX1_keep_15 rfl rfl ?_
  refine wx_iconst C 0 dX1_keep_16 (by decide) ?_
  refine pf_X1_25 C hnx (by decide) (by decide) dX1_keep_17 ?_
  refine wx_aload_n C 3 dX1_keep_20 rfl rfl ?_
  refine wx_iconst C (-1) dX1_keep_21 (by decide) ?_
  refine pf_X1_29 C hnx dX1_keep_22 ?_
  refine wx_aload_n C 3 dX1_keep_25 rfl rfl ?_
  refine gf_X1_32 C hnx dX1_keep_26 ?_
  refine wx_aload_n C 2 dX1_keep_29 rfl rfl ?_
  refine ca_X1_36 C (rest := []) (t_X6_become X.1 (g_st (g_st (g_st M (56 + 3 * nx) 0 x) (56 + 3 * nx) 1 0) (56 + 3 * nx) 2 (-1)) L (rw_a hnx) hj hne (by rw [g_st_ap, if_neg (by omega), g_st_ap, if_neg (by omega), g_st_ap, if_neg (by omega)]; exact hl) h16) (g_row_lt1 (rw_a hnx)) (sh_row (rw_a hnx) _ _) (by decide) rfl rfl (Nat.le_of_ble_eq_true rfl) dX1_keep_30 (kV fun M30 L30 q30 => ?_)
  obtain ⟨rfl, rfl⟩ := q30
  have ej : (g_st (g_st (g_st M (56 + 3 * nx) 0 x) (56 + 3 * nx) 1 0) (56 + 3 * nx) 2 (-1)) (j + 1) = M (j + 1) := by funext b; rw [g_st_ap, if_neg (by omega), g_st_ap, if_neg (by omega), g_st_ap, if_neg (by omega)]
  rw [ej]
  have en : actF M nx x l (M (j + 1)) 54 1 = nI nx := by rw [actF, g_sr_out _ _ _ _ _ (by omega) (by omega), g_st_ap, if_neg (by omega), g_st_ap, if_neg (by omega), g_st_ap, if_neg (by omega)]; exact hn
  have ek : actF M nx x l (M (j + 1)) 54 2 = nI kp := by rw [actF, g_sr_out _ _ _ _ _ (by omega) (by omega), g_st_ap, if_neg (by omega), g_st_ap, if_neg (by omega), g_st_ap, if_neg (by omega)]; exact hk
  change wx X (actF M nx x l (M (j + 1))) L _ _ _
  refine wx_aload_n C 0 dX1_keep_33 rfl rfl ?_
  refine wx_aload_n C 0 dX1_keep_34 rfl rfl ?_
  refine gf_X1_18 C dX1_keep_35 ?_
  refine wx_iconst C 1 dX1_keep_38 (by decide) ?_
  refine wx_iadd C dX1_keep_39 ?_
  refine wx_bipush C 30 dX1_keep_40 (by decide) ?_
  refine wx_irem C dX1_keep_42 (by decide) ?_
  refine pf_X1_18 C dX1_keep_43 ?_
  refine wx_aload_n C 0 dX1_keep_46 rfl rfl ?_
  refine wx_aload_n C 0 dX1_keep_47 rfl rfl ?_
  refine gf_X1_42 C dX1_keep_48 ?_
  refine wx_iconst C 1 dX1_keep_51 (by decide) ?_
  refine wx_iadd C dX1_keep_52 ?_
  refine wx_bipush C 30 dX1_keep_53 (by decide) ?_
  refine wx_mmin C w3_3 w2_196 w1_13 w2_197 (by decide) (Nat.le_of_ble_eq_true rfl) dX1_keep_55 ?_
  refine pf_X1_42 C dX1_keep_58 ?_
  refine wx_aload_n C 3 dX1_keep_61 rfl rfl ?_
  refine wx_aret C hQ dX1_keep_62 (Or.inl ⟨_, rfl⟩) (Or.inr ⟨_, rfl⟩) ?_
  refine ⟨56 + 3 * nx, rfl, rfl, rfl, ?_⟩
  unfold actK
  rw [en, nI_1, show (30 : Int32) = nI 30 from rfl, pk_rem (by omega) (by omega) (by omega)]
  have e3 : g_st (actF M nx x l (M (j + 1))) 54 1 (nI ((nx + 1) % 30)) 54 2 = nI kp := by rw [g_st_ap, if_neg (by decide)]; exact ek
  rw [e3, nI_1]
  rw [← min30 hkp]
  rfl
set_option maxHeartbeats 4000000 in
set_option maxRecDepth 100000 in
theorem t_X1_takeLatest (G : g_G) (M : g_M) (L : g_L) {nx kp : Nat} (hn : M 54 1 = nI nx) (hnx : nx < 30) (hk : M 54 2 = nI kp) (hkp : kp ≤ 30) : mt G yX1_takeLatest (Cond.code yX1_takeLatest cX1_takeLatest 1 (some (.object "NightDots$Act"))) 0 [.ref (G.1 + 54)] M L (qN G.1 fun k M' L' => L = L' ∧ (kp = 0 ∧ k = none ∧ M = M' ∨ 0 < kp ∧ k = some (56 + 3 * ((nx + 29) % 30)) ∧ M' = g_st (g_st M 54 1 (nI ((nx + 29) % 30))) 54 2 (nI (kp - 1)))) := by
  refine mt_of (by decide) rfl (Nat.le_of_ble_eq_true rfl) [(0, .ref (G.1 + 54))] rfl (fun X hG C hQ => ?_)
  subst hG
  have er : nI nx + 30 - 1 - (nI nx + 30 - 1) / 30 * 30 = nI ((nx + 29) % 30) := by
    rw [show (30 : Int32) = nI 30 from rfl, nI_add, show (1 : Int32) = nI 1 from rfl, pk_sub (by omega), pk_rem (by omega) (by omega) (by omega)]
    rfl
  refine wx_aload_n C 0 dX1_takeLatest_0 rfl rfl ?_
  refine gf_X1_42 C dX1_takeLatest_1 ?_
  refine wx_if_ne C 9 dX1_takeLatest_4 (by decide) (fun c4 => ?_) (fun c4 => ?_)
  · refine wx_aload_n C 0 dX1_takeLatest_9 rfl rfl ?_
    refine wx_aload_n C 0 dX1_takeLatest_10 rfl rfl ?_
    refine gf_X1_18 C dX1_takeLatest_11 ?_
    refine wx_bipush C 30 dX1_takeLatest_14 (by decide) ?_
    refine wx_iadd C dX1_takeLatest_16 ?_
    refine wx_iconst C 1 dX1_takeLatest_17 (by decide) ?_
    refine wx_isub C dX1_takeLatest_18 ?_
    refine wx_bipush C 30 dX1_takeLatest_19 (by decide) ?_
    refine wx_irem C dX1_takeLatest_21 (by decide) ?_
    refine pf_X1_18 C dX1_takeLatest_22 ?_
    refine wx_aload_n C 0 dX1_takeLatest_25 rfl rfl ?_
    refine wx_dup C dX1_takeLatest_26 rfl ?_
    refine gf_X1_42 C dX1_takeLatest_27 ?_
    refine wx_iconst C 1 dX1_takeLatest_30 (by decide) ?_
    refine wx_isub C dX1_takeLatest_31 ?_
    refine pf_X1_42 C dX1_takeLatest_32 ?_
    refine wx_aload_n C 0 dX1_takeLatest_35 rfl rfl ?_
    refine gf_X1_11 C dX1_takeLatest_36 ?_
    refine wx_aload_n C 0 dX1_takeLatest_39 rfl rfl ?_
    refine gf_X1_18 C dX1_takeLatest_40 ?_
    refine wx_aaldA C ((nx + 29) % 30) dX1_takeLatest_43 (by rw [g_st_ap, if_neg (by decide), g_st_ap, if_pos (by decide), hn]; exact er) (by omega) ?_
    refine wx_aret C hQ dX1_takeLatest_44 (Or.inl ⟨_, rfl⟩) (Or.inr ⟨_, rfl⟩) ?_
    refine Or.inr ⟨_, rfl, rfl, Or.inr ⟨?_, rfl, ?_⟩⟩
    · rw [hk] at c4
      exact Nat.pos_of_ne_zero (fun z => c4 (by rw [z]; rfl))
    · have h0 : 0 < kp := by
        rw [hk] at c4
        exact Nat.pos_of_ne_zero (fun z => c4 (by rw [z]; rfl))
      rw [hn, er]
      have e3 : g_st M 54 1 (nI ((nx + 29) % 30)) 54 2 = nI kp := by rw [g_st_ap, if_neg (by decide)]; exact hk
      rw [e3, show nI kp - 1 = nI (kp - 1) from pk_sub (b := 1) h0]
  · refine wx_anull C dX1_takeLatest_7 ?_
    refine wx_aret C hQ dX1_takeLatest_8 (Or.inl ⟨_, rfl⟩) (Or.inl rfl) ?_
    refine Or.inl ⟨rfl, rfl, Or.inl ⟨?_, rfl, rfl⟩⟩
    rw [hk] at c4
    exact nI_inj (by omega) (by decide) c4
set_option maxHeartbeats 4000000 in
set_option maxRecDepth 100000 in
theorem t_X1_forgetAll (G : g_G) (M : g_M) (L : g_L)  : mt G yX1_forgetAll (Cond.code yX1_forgetAll cX1_forgetAll 1 none) 0 [.ref (G.1 + 54)] M L (qV fun M' L' => L = L' ∧ M' = g_st M 54 2 0) := by
  refine mt_of (by decide) rfl (Nat.le_of_ble_eq_true rfl) [(0, .ref (G.1 + 54))] rfl (fun X hG C hQ => ?_)
  subst hG
  refine wx_aload_n C 0 dX1_forgetAll_0 rfl rfl ?_
  refine wx_iconst C 0 dX1_forgetAll_1 (by decide) ?_
  refine pf_X1_42 C dX1_forgetAll_2 ?_
  refine wx_vret C hQ dX1_forgetAll_5 ?_
  exact ⟨rfl, rfl, rfl⟩
