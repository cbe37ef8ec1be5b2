/-! ===== Net: heaps ===== -/
/-- the s-th speed -/
def vs (s : Nat) : Int32 := nI s + (-20)
theorem vs_1 (s : Nat) : vs s + 1 = vs (s + 1) := by
  unfold vs
  rw [← nI_1, Int32.add_assoc, Int32.add_assoc, Int32.add_comm (-20) 1]
theorem vs_toInt {s : Nat} (h : s ≤ 41) : (vs s).toInt = (s : Int) - 20 := by
  unfold vs
  have e1 : (nI s).toInt = (s : Int) := nI_toInt (by omega)
  have e2 : (-20 : Int32).toInt = -20 := rfl
  rw [fb_addI (by rw [e1, e2]; omega) (by rw [e1, e2]; omega), e1, e2]
  omega
theorem vs_gt {s : Nat} (h : s ≤ 41) : 20 < vs s ↔ s = 41 := by
  rw [i_lt, vs_toInt h, show (20 : Int32).toInt = 20 from rfl]
  omega
def cnI (p : Lp) (v : Int32) : Int32 := if spK p v then spG p v - spL p v + 1 else 0
def sumL (p : Lp) : Nat → Int64
  | 0 => 0
  | s + 1 => sumL p s + (cnI p (vs s)).toInt64
def anyS (p : Lp) : Nat → Bool
  | 0 => false
  | s + 1 => anyS p s || spK p (vs s)
theorem anyS_up {p : Lp} {s : Nat} (h : anyS p s = true) : ∀ n, anyS p (s + n) = true
  | 0 => h
  | n + 1 => by
    rw [← Nat.add_assoc, anyS, anyS_up h n]
    rfl
theorem anyS_at {p : Lp} {s n : Nat} (hs : s < n) (h : spK p (vs s) = true) : anyS p n = true := by
  have h1 : anyS p (s + 1) = true := by rw [anyS, h, Bool.or_true]
  have h2 := anyS_up h1 (n - (s + 1))
  rwa [show s + 1 + (n - (s + 1)) = n by omega] at h2
/-- a heap is not empty -/
def snd (M : g_M) (r : Nat → Nat) (l : Nat) : Bool := anyS (cLp M 0 r l) 41 && anyS (cLp M 1 r l) 41
def NO : Int64 := -9223372036854775808
/-- what a line with the start a by GRID and the speed v has at an hour -/
def thr (g a v h : Int32) : Int64 := a.toInt64 * g.toInt64 + (v * h).toInt64
def edS (p : Lp) (h : Int32) (w : Bool) : Nat → Int64
  | 0 => NO
  | s + 1 => if spK p (vs s) then (if edS p h w s = NO ∨ (if w then edS p h w s < thr p.2.2.2.1 (if w then spG p (vs s) else spL p (vs s)) (vs s) h else thr p.2.2.2.1 (if w then spG p (vs s) else spL p (vs s)) (vs s) h < edS p h w s) then thr p.2.2.2.1 (if w then spG p (vs s) else spL p (vs s)) (vs s) h else edS p h w s) else edS p h w s
/-- span from a memory whose Net has been used -/
theorem t_span2 (G : g_G) (M : g_M) (L : g_L) {k l : Nat} {r : Nat → Nat} (hk : rok M k l r) (hg0 : 1 ≤ (M 7 1).toInt) (a b ax v : Int32) : mt G yX4_span (Cond.code yX4_span cX4_span 9 (some .boolean)) 1 [.ref (G.1 + 7), .ref (G.1 + k), .int ax, .int v] (nt M a b) L (qI fun u M' L' => L = L' ∧ u = bI (spK (cLp M ax r l) v) ∧ ∃ a1 b1, M' = nt M a1 b1 ∧ (spK (cLp M ax r l) v = true → a1 = spL (cLp M ax r l) v ∧ b1 = spG (cLp M ax r l) v)) := by
  refine mt_mono (t_X4_span G (nt M a b) L (hk.nt a b) hg0 ax v) (fun r M1 L1 h => ?_)
  obtain ⟨u, e, h1, h2, a1, b1, h3, h4⟩ := h
  rw [nt_nt] at h3
  exact ⟨u, e, h1, h2, a1, b1, h3, h4⟩
set_option maxHeartbeats 4000000 in
set_option maxRecDepth 100000 in
theorem lp_X4_linesBy {X : g_X} {Qr : Option Value → g_M → g_L → Prop} (C : Cx X cX4_linesBy 6 RX4 (some .long) 2) (hQ : Rx X Qr) {M : g_M} {L : g_L} {k l : Nat} {r : Nat → Nat} {ax : Int32} (hk : rok M k l r) (hg0 : 1 ≤ (M 7 1).toInt) (hp : ∀ a b, Qr (some (.long (sumL (cLp M ax r l) 41))) (nt M a b) L) : ∀ (n i : Nat), i ≤ 41 → 41 < i + n → ∀ (a b : Int32), wx X (nt M a b) L 6 [(0, .ref (X.1.1 + 7)), (1, .ref (X.1.1 + k)), (2, .int ax), (3, .long (sumL (cLp M ax r l) i)), (5, .int (vs i))] [] := by
  intro n
  induction n with
  | zero =>
    intro i h1 h2
    exact absurd h2 (by omega)
  | succ n ih =>
    intro i hi0 hin a b
    refine wx_iload C 4 dX4_linesBy_6 rfl ?_
    refine wx_bipush C 20 dX4_linesBy_8 (by decide) ?_
    refine wx_icmp_gt C 45 dX4_linesBy_10 (by decide) (fun c10 => ?_) (fun c10 => ?_)
    · have hs : i = 41 := (vs_gt hi0).mp c10
      refine wx_lload_n C 3 dX4_linesBy_45 rfl rfl ?_
      refine wx_lret C hQ dX4_linesBy_46 ?_
      rw [hs]
      exact hp a b
    · have hs : i < 41 := by
        rw [vs_gt hi0] at c10
        omega
      refine wx_aload_n C 0 dX4_linesBy_13 rfl rfl ?_
      refine wx_aload_n C 1 dX4_linesBy_14 rfl rfl ?_
      refine wx_iload_n C 2 dX4_linesBy_15 rfl rfl ?_
      refine wx_iload C 4 dX4_linesBy_16 rfl ?_
      refine ca_X4_57 C (rest := []) (t_span2 X.1 M L hk hg0 a b ax (vs i)) (by decide) rfl (by decide) rfl rfl (Nat.le_of_ble_eq_true rfl) dX4_linesBy_18 (kI fun r18 M18 L18 q18 => ?_)
      obtain ⟨rfl, rfl, a18, b18, rfl, hab⟩ := q18
      refine wx_if_eq C 39 dX4_linesBy_21 (by decide) (fun c21 => ?_) (fun c21 => ?_)
      · refine wx_iinc C (v := (vs (i + 1))) 4 [1, 2, 3, 4, 0] [(0, .ref (X.1.1 + 7)), (1, .ref (X.1.1 + k)), (2, .int ax), (3, .long (sumL (cLp M ax r l) i)), (5, .int (vs (i + 1)))] dX4_linesBy_39 rfl (vs_1 i) (by decide) rfl ?_
        refine wx_goto C 6 dX4_linesBy_42 (by decide) ?_
        have h := ih (i + 1) (by omega) (by omega) a18 b18
        simp only [sumL, cnI] at h
        rw [if_neg (by rw [bI_0.mp c21]; decide)] at h
        rw [show (0 : Int32).toInt64 = 0 from rfl, Int64.add_zero] at h
        exact h
      · refine wx_lload_n C 3 dX4_linesBy_24 rfl rfl ?_
        refine wx_aload_n C 0 dX4_linesBy_25 rfl rfl ?_
        refine gf_X4_54 C dX4_linesBy_26 ?_
        refine wx_aload_n C 0 dX4_linesBy_29 rfl rfl ?_
        refine gf_X4_51 C dX4_linesBy_30 ?_
        refine wx_isub C dX4_linesBy_33 ?_
        refine wx_iconst C 1 dX4_linesBy_34 (by decide) ?_
        refine wx_iadd C dX4_linesBy_35 ?_
        refine wx_i2l C dX4_linesBy_36 ?_
        refine wx_ladd C dX4_linesBy_37 ?_
        refine wx_lstore_n C [1, 2, 3, 0, 4] [(0, .ref (X.1.1 + 7)), (1, .ref (X.1.1 + k)), (2, .int ax), (3, .long ((sumL (cLp M ax r l) i) + (((((nt M a18 b18) 7 4) - ((nt M a18 b18) 7 3)) + 1).toInt64))), (5, .int (vs i))] dX4_linesBy_38 rfl (by decide) rfl ?_
        refine wx_iinc C (v := (vs (i + 1))) 4 [1, 2, 3, 4, 0] [(0, .ref (X.1.1 + 7)), (1, .ref (X.1.1 + k)), (2, .int ax), (3, .long ((sumL (cLp M ax r l) i) + (((((nt M a18 b18) 7 4) - ((nt M a18 b18) 7 3)) + 1).toInt64))), (5, .int (vs (i + 1)))] dX4_linesBy_39 rfl (vs_1 i) (by decide) rfl ?_
        refine wx_goto C 6 dX4_linesBy_42 (by decide) ?_
        have h := ih (i + 1) (by omega) (by omega) a18 b18
        simp only [sumL, cnI] at h
        obtain ⟨rfl, rfl⟩ := hab (bI_n0.mp c21)
        rw [if_pos (bI_n0.mp c21)] at h
        exact h
set_option maxHeartbeats 4000000 in
set_option maxRecDepth 100000 in
theorem t_X4_linesBy (G : g_G) (M : g_M) (L : g_L) {k l : Nat} {r : Nat → Nat} (hk : rok M k l r) (hg0 : 1 ≤ (M 7 1).toInt) (ax : Int32) : mt G yX4_linesBy (Cond.code yX4_linesBy cX4_linesBy 6 (some .long)) 2 [.ref (G.1 + 7), .ref (G.1 + k), .int ax] M L (qL fun v M' L' => L = L' ∧ v = sumL (cLp M ax r l) 41 ∧ ∃ a b, M' = nt M a b) := by
  refine mt_of (by decide) rfl (Nat.le_of_ble_eq_true rfl) [(0, .ref (G.1 + 7)), (1, .ref (G.1 + k)), (2, .int ax)] rfl (fun X hG C hQ => ?_)
  subst hG
  refine wx_lconst C 0 dX4_linesBy_0 (by decide) ?_
  refine wx_lstore_n C [1, 2, 3, 0] [(0, .ref (X.1.1 + 7)), (1, .ref (X.1.1 + k)), (2, .int ax), (3, .long 0)] dX4_linesBy_1 rfl (by decide) rfl ?_
  refine wx_bipush C (-20) dX4_linesBy_2 (by decide) ?_
  refine wx_istore C [1, 2, 3, 4, 0] [(0, .ref (X.1.1 + 7)), (1, .ref (X.1.1 + k)), (2, .int ax), (3, .long 0), (5, .int (-20))] dX4_linesBy_4 (by decide) rfl ?_
  have h := lp_X4_linesBy C hQ hk hg0 (fun a b => ⟨_, rfl, rfl, rfl, a, b, rfl⟩) 42 0 (by omega) (by omega) (M 7 3) (M 7 4)
  rw [nt_self] at h
  exact h
theorem t_linesBy2 (G : g_G) (M : g_M) (L : g_L) {k l : Nat} {r : Nat → Nat} (hk : rok M k l r) (hg0 : 1 ≤ (M 7 1).toInt) (a b ax : Int32) : mt G yX4_linesBy (Cond.code yX4_linesBy cX4_linesBy 6 (some .long)) 2 [.ref (G.1 + 7), .ref (G.1 + k), .int ax] (nt M a b) L (qL fun v M' L' => L = L' ∧ v = sumL (cLp M ax r l) 41 ∧ ∃ a b, M' = nt M a b) := by
  refine mt_mono (t_X4_linesBy G (nt M a b) L (hk.nt a b) hg0 ax) (fun r M1 L1 h => ?_)
  obtain ⟨u, e, h1, h2, a1, b1, h3⟩ := h
  rw [nt_nt] at h3
  exact ⟨u, e, h1, h2, a1, b1, h3⟩
set_option maxHeartbeats 4000000 in
set_option maxRecDepth 100000 in
theorem t_X4_linesOf (G : g_G) (M : g_M) (L : g_L) {k l : Nat} {r : Nat → Nat} (hk : rok M k l r) (hg0 : 1 ≤ (M 7 1).toInt) : mt G yX4_linesOf (Cond.code yX4_linesOf cX4_linesOf 2 (some .long)) 3 [.ref (G.1 + 7), .ref (G.1 + k)] M L (qL fun v M' L' => L = L' ∧ v = sumL (cLp M 0 r l) 41 * sumL (cLp M 1 r l) 41 ∧ ∃ a b, M' = nt M a b) := by
  refine mt_of (by decide) rfl (Nat.le_of_ble_eq_true rfl) [(0, .ref (G.1 + 7)), (1, .ref (G.1 + k))] rfl (fun X hG C hQ => ?_)
  subst hG
  refine wx_aload_n C 0 dX4_linesOf_0 rfl rfl ?_
  refine wx_aload_n C 1 dX4_linesOf_1 rfl rfl ?_
  refine wx_iconst C 0 dX4_linesOf_2 (by decide) ?_
  refine ca_X4_61 C (rest := []) (t_X4_linesBy X.1 M L hk hg0 0) (by decide) rfl (by decide) rfl rfl (Nat.le_of_ble_eq_true rfl) dX4_linesOf_3 (kL fun r3 M3 L3 q3 => ?_)
  obtain ⟨rfl, rfl, a3, b3, rfl⟩ := q3
  refine wx_aload_n C 0 dX4_linesOf_6 rfl rfl ?_
  refine wx_aload_n C 1 dX4_linesOf_7 rfl rfl ?_
  refine wx_iconst C 1 dX4_linesOf_8 (by decide) ?_
  refine ca_X4_61 C (rest := [.long (sumL (cLp M 0 r l) 41)]) (t_linesBy2 X.1 M L hk hg0 a3 b3 1) (by decide) rfl (by decide) rfl rfl (Nat.le_of_ble_eq_true rfl) dX4_linesOf_9 (kL fun r9 M9 L9 q9 => ?_)
  obtain ⟨rfl, rfl, a9, b9, rfl⟩ := q9
  refine wx_lmul C dX4_linesOf_12 ?_
  refine wx_lret C hQ dX4_linesOf_13 ?_
  exact ⟨_, rfl, rfl, rfl, a9, b9, rfl⟩
set_option maxHeartbeats 4000000 in
set_option maxRecDepth 100000 in
theorem lp_X4_isSoundBy {X : g_X} {Qr : Option Value → g_M → g_L → Prop} (C : Cx X cX4_isSoundBy 4 RX4 (some .boolean) 2) (hQ : Rx X Qr) {M : g_M} {L : g_L} {k l : Nat} {r : Nat → Nat} {ax : Int32} (hk : rok M k l r) (hg0 : 1 ≤ (M 7 1).toInt) (hp : ∀ a b, Qr (some (.int (bI (anyS (cLp M ax r l) 41)))) (nt M a b) L) : ∀ (n i : Nat), i ≤ 41 → 41 < i + n → anyS (cLp M ax r l) i = false → ∀ (a b : Int32), wx X (nt M a b) L 3 [(0, .ref (X.1.1 + 7)), (1, .ref (X.1.1 + k)), (2, .int ax), (3, .int (vs i))] [] := by
  intro n
  induction n with
  | zero =>
    intro i h1 h2
    exact absurd h2 (by omega)
  | succ n ih =>
    intro i hi0 hin hno a b
    refine wx_iload_n C 3 dX4_isSoundBy_3 rfl rfl ?_
    refine wx_bipush C 20 dX4_isSoundBy_4 (by decide) ?_
    refine wx_icmp_gt C 27 dX4_isSoundBy_6 (by decide) (fun c6 => ?_) (fun c6 => ?_)
    · have hs : i = 41 := (vs_gt hi0).mp c6
      refine wx_iconst C 0 dX4_isSoundBy_27 (by decide) ?_
      refine wx_zret C hQ dX4_isSoundBy_28 (by decide) ?_
      have h := hp a b
      rw [← hs, hno] at h
      exact h
    · have hs : i < 41 := by
        rw [vs_gt hi0] at c6
        omega
      refine wx_aload_n C 0 dX4_isSoundBy_9 rfl rfl ?_
      refine wx_aload_n C 1 dX4_isSoundBy_10 rfl rfl ?_
      refine wx_iload_n C 2 dX4_isSoundBy_11 rfl rfl ?_
      refine wx_iload_n C 3 dX4_isSoundBy_12 rfl rfl ?_
      refine ca_X4_57 C (rest := []) (t_span2 X.1 M L hk hg0 a b ax (vs i)) (by decide) rfl (by decide) rfl rfl (Nat.le_of_ble_eq_true rfl) dX4_isSoundBy_13 (kI fun r13 M13 L13 q13 => ?_)
      obtain ⟨rfl, rfl, a13, b13, rfl, hab⟩ := q13
      refine wx_if_eq C 21 dX4_isSoundBy_16 (by decide) (fun c16 => ?_) (fun c16 => ?_)
      · refine wx_iinc C (v := (vs (i + 1))) 3 [1, 2, 3, 0] [(0, .ref (X.1.1 + 7)), (1, .ref (X.1.1 + k)), (2, .int ax), (3, .int (vs (i + 1)))] dX4_isSoundBy_21 rfl (vs_1 i) (by decide) rfl ?_
        refine wx_goto C 3 dX4_isSoundBy_24 (by decide) ?_
        exact ih (i + 1) (by omega) (by omega) (by rw [anyS, hno, bI_0.mp c16]; rfl) a13 b13
      · refine wx_iconst C 1 dX4_isSoundBy_19 (by decide) ?_
        refine wx_zret C hQ dX4_isSoundBy_20 (by decide) ?_
        have h := hp a13 b13
        rw [anyS_at hs (bI_n0.mp c16)] at h
        exact h
set_option maxHeartbeats 4000000 in
set_option maxRecDepth 100000 in
theorem t_X4_isSoundBy (G : g_G) (M : g_M) (L : g_L) {k l : Nat} {r : Nat → Nat} (hk : rok M k l r) (hg0 : 1 ≤ (M 7 1).toInt) (ax : Int32) : mt G yX4_isSoundBy (Cond.code yX4_isSoundBy cX4_isSoundBy 4 (some .boolean)) 2 [.ref (G.1 + 7), .ref (G.1 + k), .int ax] M L (qI fun v M' L' => L = L' ∧ v = bI (anyS (cLp M ax r l) 41) ∧ ∃ a b, M' = nt M a b) := by
  refine mt_of (by decide) rfl (Nat.le_of_ble_eq_true rfl) [(0, .ref (G.1 + 7)), (1, .ref (G.1 + k)), (2, .int ax)] rfl (fun X hG C hQ => ?_)
  subst hG
  refine wx_bipush C (-20) dX4_isSoundBy_0 (by decide) ?_
  refine wx_istore_n C [1, 2, 3, 0] [(0, .ref (X.1.1 + 7)), (1, .ref (X.1.1 + k)), (2, .int ax), (3, .int (-20))] dX4_isSoundBy_2 rfl (by decide) rfl ?_
  have h := lp_X4_isSoundBy C hQ hk hg0 (fun a b => ⟨_, rfl, rfl, rfl, a, b, rfl⟩) 42 0 (by omega) (by omega) rfl (M 7 3) (M 7 4)
  rw [nt_self] at h
  exact h
theorem t_isSoundBy2 (G : g_G) (M : g_M) (L : g_L) {k l : Nat} {r : Nat → Nat} (hk : rok M k l r) (hg0 : 1 ≤ (M 7 1).toInt) (a b ax : Int32) : mt G yX4_isSoundBy (Cond.code yX4_isSoundBy cX4_isSoundBy 4 (some .boolean)) 2 [.ref (G.1 + 7), .ref (G.1 + k), .int ax] (nt M a b) L (qI fun v M' L' => L = L' ∧ v = bI (anyS (cLp M ax r l) 41) ∧ ∃ a b, M' = nt M a b) := by
  refine mt_mono (t_X4_isSoundBy G (nt M a b) L (hk.nt a b) hg0 ax) (fun r M1 L1 h => ?_)
  obtain ⟨u, e, h1, h2, a1, b1, h3⟩ := h
  rw [nt_nt] at h3
  exact ⟨u, e, h1, h2, a1, b1, h3⟩
set_option maxHeartbeats 4000000 in
set_option maxRecDepth 100000 in
theorem t_X4_isSound (G : g_G) (M : g_M) (L : g_L) {k l : Nat} {r : Nat → Nat} (hk : rok M k l r) (hg0 : 1 ≤ (M 7 1).toInt) : mt G yX4_isSound (Cond.code yX4_isSound cX4_isSound 2 (some .boolean)) 3 [.ref (G.1 + 7), .ref (G.1 + k)] M L (qI fun v M' L' => L = L' ∧ v = bI (snd M r l) ∧ ∃ a b, M' = nt M a b) := by
  refine mt_of (by decide) rfl (Nat.le_of_ble_eq_true rfl) [(0, .ref (G.1 + 7)), (1, .ref (G.1 + k))] rfl (fun X hG C hQ => ?_)
  subst hG
  refine wx_aload_n C 0 dX4_isSound_0 rfl rfl ?_
  refine wx_aload_n C 1 dX4_isSound_1 rfl rfl ?_
  refine wx_iconst C 0 dX4_isSound_2 (by decide) ?_
  refine ca_X4_65 C (rest := []) (t_X4_isSoundBy X.1 M L hk hg0 0) (by decide) rfl (by decide) rfl rfl (Nat.le_of_ble_eq_true rfl) dX4_isSound_3 (kI fun r3 M3 L3 q3 => ?_)
  obtain ⟨rfl, rfl, a3, b3, rfl⟩ := q3
  refine wx_if_eq C 22 dX4_isSound_6 (by decide) (fun c6 => ?_) (fun c6 => ?_)
  · refine wx_iconst C 0 dX4_isSound_22 (by decide) ?_
    refine wx_zret C hQ dX4_isSound_23 (by decide) ?_
    refine ⟨_, rfl, rfl, ?_, _, _, rfl⟩
    unfold snd
    first
    | rw [bI_0.mp c6, Bool.false_and]; rfl
    | rw [bI_0.mp c15, Bool.and_false]; rfl
  · refine wx_aload_n C 0 dX4_isSound_9 rfl rfl ?_
    refine wx_aload_n C 1 dX4_isSound_10 rfl rfl ?_
    refine wx_iconst C 1 dX4_isSound_11 (by decide) ?_
    refine ca_X4_65 C (rest := []) (t_isSoundBy2 X.1 M L hk hg0 a3 b3 1) (by decide) rfl (by decide) rfl rfl (Nat.le_of_ble_eq_true rfl) dX4_isSound_12 (kI fun r12 M12 L12 q12 => ?_)
    obtain ⟨rfl, rfl, a12, b12, rfl⟩ := q12
    refine wx_if_eq C 22 dX4_isSound_15 (by decide) (fun c15 => ?_) (fun c15 => ?_)
    · refine wx_iconst C 0 dX4_isSound_22 (by decide) ?_
      refine wx_zret C hQ dX4_isSound_23 (by decide) ?_
      refine ⟨_, rfl, rfl, ?_, _, _, rfl⟩
      unfold snd
      first
      | rw [bI_0.mp c6, Bool.false_and]; rfl
      | rw [bI_0.mp c15, Bool.and_false]; rfl
    · refine wx_iconst C 1 dX4_isSound_18 (by decide) ?_
      refine wx_goto C 23 dX4_isSound_19 (by decide) ?_
      refine wx_zret C hQ dX4_isSound_23 (by decide) ?_
      refine ⟨_, rfl, rfl, ?_, _, _, rfl⟩
      unfold snd
      rw [bI_n0.mp c6, bI_n0.mp c15]
      rfl
theorem t_isSound2 (G : g_G) (M : g_M) (L : g_L) {k l : Nat} {r : Nat → Nat} (hk : rok M k l r) (hg0 : 1 ≤ (M 7 1).toInt) (a b : Int32) : mt G yX4_isSound (Cond.code yX4_isSound cX4_isSound 2 (some .boolean)) 3 [.ref (G.1 + 7), .ref (G.1 + k)] (nt M a b) L (qI fun v M' L' => L = L' ∧ v = bI (snd M r l) ∧ ∃ a b, M' = nt M a b) := by
  refine mt_mono (t_X4_isSound G (nt M a b) L (hk.nt a b) hg0) (fun r M1 L1 h => ?_)
  obtain ⟨u, e, h1, h2, a1, b1, h3⟩ := h
  rw [nt_nt] at h3
  exact ⟨u, e, h1, h2, a1, b1, h3⟩
/-- one more speed is looked at -/
theorem edS_1 {p : Lp} {h : Int32} {w : Bool} {s : Nat} {x : Int64} (hk : spK p (vs s) = true) (hx : x = thr p.2.2.2.1 (if w then spG p (vs s) else spL p (vs s)) (vs s) h) : edS p h w (s + 1) = if edS p h w s = NO ∨ (if w then edS p h w s < x else x < edS p h w s) then x else edS p h w s := by
  subst hx
  rw [edS, if_pos hk]
set_option maxHeartbeats 4000000 in
set_option maxRecDepth 100000 in
theorem lp_X4_edge {X : g_X} {Qr : Option Value → g_M → g_L → Prop} (C : Cx X cX4_edge 10 RX4 (some .long) 2) (hQ : Rx X Qr) {M : g_M} {L : g_L} {k l : Nat} {r : Nat → Nat} {ax : Int32} (hk : rok M k l r) (hg0 : 1 ≤ (M 7 1).toInt) {h : Int32} {w : Bool} (hp : ∀ a b, Qr (some (.long (edS (cLp M ax r l) h w 41))) (nt M a b) L) : ∀ (n i : Nat), i ≤ 41 → 41 < i + n → ∀ (a b : Int32), wx X (nt M a b) L 9 [(0, .ref (X.1.1 + 7)), (1, .ref (X.1.1 + k)), (2, .int ax), (3, .int h), (4, .int (bI w)), (5, .long (edS (cLp M ax r l) h w i)), (7, .int (vs i))] [] := by
  intro n
  induction n with
  | zero =>
    intro i h1 h2
    exact absurd h2 (by omega)
  | succ n ih =>
    intro i hi0 hin a b
    refine wx_iload C 6 dX4_edge_9 rfl ?_
    refine wx_bipush C 20 dX4_edge_11 (by decide) ?_
    refine wx_icmp_gt C 101 dX4_edge_13 (by decide) (fun c13 => ?_) (fun c13 => ?_)
    · have hs : i = 41 := (vs_gt hi0).mp c13
      refine wx_lload C 5 dX4_edge_101 rfl ?_
      refine wx_lret C hQ dX4_edge_103 ?_
      rw [hs]
      exact hp a b
    · have hs : i < 41 := by
        rw [vs_gt hi0] at c13
        omega
      refine wx_aload_n C 0 dX4_edge_16 rfl rfl ?_
      refine wx_aload_n C 1 dX4_edge_17 rfl rfl ?_
      refine wx_iload_n C 2 dX4_edge_18 rfl rfl ?_
      refine wx_iload C 6 dX4_edge_19 rfl ?_
      refine ca_X4_57 C (rest := []) (t_span2 X.1 M L hk hg0 a b ax (vs i)) (by decide) rfl (by decide) rfl rfl (Nat.le_of_ble_eq_true rfl) dX4_edge_21 (kI fun r21 M21 L21 q21 => ?_)
      obtain ⟨rfl, rfl, a21, b21, rfl, hab⟩ := q21
      refine wx_if_eq C 95 dX4_edge_24 (by decide) (fun c24 => ?_) (fun c24 => ?_)
      · refine wx_iinc C (v := (vs (i + 1))) 6 [1, 2, 3, 4, 5, 6, 0] [(0, .ref (X.1.1 + 7)), (1, .ref (X.1.1 + k)), (2, .int ax), (3, .int h), (4, .int (bI w)), (5, .long (edS (cLp M ax r l) h w i)), (7, .int (vs (i + 1)))] dX4_edge_95 rfl (vs_1 i) (by decide) rfl ?_
        refine wx_goto C 9 dX4_edge_98 (by decide) ?_
        refine wx_sub [0, 1, 2, 3, 4, 5, 6] ?_ (ih (i + 1) (by omega) (by omega) a21 b21)
        rw [edS, if_neg (by rw [bI_0.mp c24]; decide)]
        rfl
      · refine wx_iload C 4 dX4_edge_27 rfl ?_
        refine wx_if_eq C 39 dX4_edge_29 (by decide) (fun c29 => ?_) (fun c29 => ?_)
        · refine wx_aload_n C 0 dX4_edge_39 rfl rfl ?_
          refine gf_X4_51 C dX4_edge_40 ?_
          refine wx_i2l C dX4_edge_43 ?_
          refine wx_aload_n C 0 dX4_edge_44 rfl rfl ?_
          refine gf_X4_9 C dX4_edge_45 ?_
          refine wx_i2l C dX4_edge_48 ?_
          refine wx_lmul C dX4_edge_49 ?_
          refine wx_iload C 6 dX4_edge_50 rfl ?_
          refine wx_iload_n C 3 dX4_edge_52 rfl rfl ?_
          refine wx_imul C dX4_edge_53 ?_
          refine wx_i2l C dX4_edge_54 ?_
          refine wx_ladd C dX4_edge_55 ?_
          refine wx_nml (fun x8 hx8 => ?_)
          refine wx_lstore C [1, 2, 3, 4, 5, 6, 7, 0] [(0, .ref (X.1.1 + 7)), (1, .ref (X.1.1 + k)), (2, .int ax), (3, .int h), (4, .int (bI w)), (5, .long (edS (cLp M ax r l) h w i)), (7, .int (vs i)), (8, .long x8)] dX4_edge_56 (by decide) rfl ?_
          have hA := hab (bI_n0.mp c24)
          have hx8 : x8 = thr (M 7 1) (if w then spG (cLp M ax r l) (vs i) else spL (cLp M ax r l) (vs i)) (vs i) h := by
            rw [hx8]
            first
            | (rw [if_pos (bI_n0.mp c29), ← hA.2]; rfl)
            | (rw [if_neg (show ¬ w = true by rw [bI_0.mp c29]; decide), ← hA.1]; rfl)
          refine wx_lload C 5 dX4_edge_58 rfl ?_
          refine wx_ldc2 C w3_75 dX4_edge_60 ?_
          refine wx_lcmp C dX4_edge_63 ?_
          refine wx_if_eq C 91 dX4_edge_64 (by decide) (fun c64 => ?_) (fun c64 => ?_)
          · refine wx_lload C 7 dX4_edge_91 rfl ?_
            refine wx_lstore C [1, 2, 3, 4, 5, 0, 6, 7] [(0, .ref (X.1.1 + 7)), (1, .ref (X.1.1 + k)), (2, .int ax), (3, .int h), (4, .int (bI w)), (5, .long x8), (7, .int (vs i)), (8, .long x8)] dX4_edge_93 (by decide) rfl ?_
            refine wx_iinc C (v := (vs (i + 1))) 6 [1, 2, 3, 4, 5, 6, 0, 7] [(0, .ref (X.1.1 + 7)), (1, .ref (X.1.1 + k)), (2, .int ax), (3, .int h), (4, .int (bI w)), (5, .long x8), (7, .int (vs (i + 1))), (8, .long x8)] dX4_edge_95 rfl (vs_1 i) (by decide) rfl ?_
            refine wx_goto C 9 dX4_edge_98 (by decide) ?_
            have e := edS_1 (p := cLp M ax r l) (h := h) (w := w) (bI_n0.mp c24) hx8
            rw [if_pos (by first | exact Or.inl ((lg_cmp_eq _ _).mp c64) | (refine Or.inr ?_; rw [if_pos (bI_n0.mp c69)]; exact (lg_cmp_gt _ _).mp (Int32.not_le.mp c77)) | (refine Or.inr ?_; rw [if_neg (show ¬ w = true by rw [bI_0.mp c69]; decide)]; exact (lg_cmp_lt _ _).mp (Int32.not_le.mp c88)))] at e
            refine wx_sub [0, 1, 2, 3, 4, 5, 6] ?_ (ih (i + 1) (by omega) (by omega) a21 b21)
            rw [e]
            rfl
          · refine wx_iload C 4 dX4_edge_67 rfl ?_
            refine wx_if_eq C 83 dX4_edge_69 (by decide) (fun c69 => ?_) (fun c69 => ?_)
            · refine wx_lload C 7 dX4_edge_83 rfl ?_
              refine wx_lload C 5 dX4_edge_85 rfl ?_
              refine wx_lcmp C dX4_edge_87 ?_
              refine wx_if_ge C 95 dX4_edge_88 (by decide) (fun c88 => ?_) (fun c88 => ?_)
              · refine wx_iinc C (v := (vs (i + 1))) 6 [1, 2, 3, 4, 5, 6, 0, 7] [(0, .ref (X.1.1 + 7)), (1, .ref (X.1.1 + k)), (2, .int ax), (3, .int h), (4, .int (bI w)), (5, .long (edS (cLp M ax r l) h w i)), (7, .int (vs (i + 1))), (8, .long x8)] dX4_edge_95 rfl (vs_1 i) (by decide) rfl ?_
                refine wx_goto C 9 dX4_edge_98 (by decide) ?_
                have e := edS_1 (p := cLp M ax r l) (h := h) (w := w) (bI_n0.mp c24) hx8
                rw [if_neg (by intro z; rcases z with z | z; exact c64 ((lg_cmp_eq _ _).mpr z); first | (rw [if_pos (bI_n0.mp c69)] at z; exact absurd ((lg_cmp_gt _ _).mpr z) (Int32.not_lt.mpr c77)) | (rw [if_neg (show ¬ w = true by rw [bI_0.mp c69]; decide)] at z; exact absurd ((lg_cmp_lt _ _).mpr z) (Int32.not_lt.mpr c88)))] at e
                refine wx_sub [0, 1, 2, 3, 4, 5, 6] ?_ (ih (i + 1) (by omega) (by omega) a21 b21)
                rw [e]
                rfl
              · refine wx_lload C 7 dX4_edge_91 rfl ?_
                refine wx_lstore C [1, 2, 3, 4, 5, 0, 6, 7] [(0, .ref (X.1.1 + 7)), (1, .ref (X.1.1 + k)), (2, .int ax), (3, .int h), (4, .int (bI w)), (5, .long x8), (7, .int (vs i)), (8, .long x8)] dX4_edge_93 (by decide) rfl ?_
                refine wx_iinc C (v := (vs (i + 1))) 6 [1, 2, 3, 4, 5, 6, 0, 7] [(0, .ref (X.1.1 + 7)), (1, .ref (X.1.1 + k)), (2, .int ax), (3, .int h), (4, .int (bI w)), (5, .long x8), (7, .int (vs (i + 1))), (8, .long x8)] dX4_edge_95 rfl (vs_1 i) (by decide) rfl ?_
                refine wx_goto C 9 dX4_edge_98 (by decide) ?_
                have e := edS_1 (p := cLp M ax r l) (h := h) (w := w) (bI_n0.mp c24) hx8
                rw [if_pos (by first | exact Or.inl ((lg_cmp_eq _ _).mp c64) | (refine Or.inr ?_; rw [if_pos (bI_n0.mp c69)]; exact (lg_cmp_gt _ _).mp (Int32.not_le.mp c77)) | (refine Or.inr ?_; rw [if_neg (show ¬ w = true by rw [bI_0.mp c69]; decide)]; exact (lg_cmp_lt _ _).mp (Int32.not_le.mp c88)))] at e
                refine wx_sub [0, 1, 2, 3, 4, 5, 6] ?_ (ih (i + 1) (by omega) (by omega) a21 b21)
                rw [e]
                rfl
            · refine wx_lload C 7 dX4_edge_72 rfl ?_
              refine wx_lload C 5 dX4_edge_74 rfl ?_
              refine wx_lcmp C dX4_edge_76 ?_
              refine wx_if_le C 95 dX4_edge_77 (by decide) (fun c77 => ?_) (fun c77 => ?_)
              · refine wx_iinc C (v := (vs (i + 1))) 6 [1, 2, 3, 4, 5, 6, 0, 7] [(0, .ref (X.1.1 + 7)), (1, .ref (X.1.1 + k)), (2, .int ax), (3, .int h), (4, .int (bI w)), (5, .long (edS (cLp M ax r l) h w i)), (7, .int (vs (i + 1))), (8, .long x8)] dX4_edge_95 rfl (vs_1 i) (by decide) rfl ?_
                refine wx_goto C 9 dX4_edge_98 (by decide) ?_
                have e := edS_1 (p := cLp M ax r l) (h := h) (w := w) (bI_n0.mp c24) hx8
                rw [if_neg (by intro z; rcases z with z | z; exact c64 ((lg_cmp_eq _ _).mpr z); first | (rw [if_pos (bI_n0.mp c69)] at z; exact absurd ((lg_cmp_gt _ _).mpr z) (Int32.not_lt.mpr c77)) | (rw [if_neg (show ¬ w = true by rw [bI_0.mp c69]; decide)] at z; exact absurd ((lg_cmp_lt _ _).mpr z) (Int32.not_lt.mpr c88)))] at e
                refine wx_sub [0, 1, 2, 3, 4, 5, 6] ?_ (ih (i + 1) (by omega) (by omega) a21 b21)
                rw [e]
                rfl
              · refine wx_goto C 91 dX4_edge_80 (by decide) ?_
                refine wx_lload C 7 dX4_edge_91 rfl ?_
                refine wx_lstore C [1, 2, 3, 4, 5, 0, 6, 7] [(0, .ref (X.1.1 + 7)), (1, .ref (X.1.1 + k)), (2, .int ax), (3, .int h), (4, .int (bI w)), (5, .long x8), (7, .int (vs i)), (8, .long x8)] dX4_edge_93 (by decide) rfl ?_
                refine wx_iinc C (v := (vs (i + 1))) 6 [1, 2, 3, 4, 5, 6, 0, 7] [(0, .ref (X.1.1 + 7)), (1, .ref (X.1.1 + k)), (2, .int ax), (3, .int h), (4, .int (bI w)), (5, .long x8), (7, .int (vs (i + 1))), (8, .long x8)] dX4_edge_95 rfl (vs_1 i) (by decide) rfl ?_
                refine wx_goto C 9 dX4_edge_98 (by decide) ?_
                have e := edS_1 (p := cLp M ax r l) (h := h) (w := w) (bI_n0.mp c24) hx8
                rw [if_pos (by first | exact Or.inl ((lg_cmp_eq _ _).mp c64) | (refine Or.inr ?_; rw [if_pos (bI_n0.mp c69)]; exact (lg_cmp_gt _ _).mp (Int32.not_le.mp c77)) | (refine Or.inr ?_; rw [if_neg (show ¬ w = true by rw [bI_0.mp c69]; decide)]; exact (lg_cmp_lt _ _).mp (Int32.not_le.mp c88)))] at e
                refine wx_sub [0, 1, 2, 3, 4, 5, 6] ?_ (ih (i + 1) (by omega) (by omega) a21 b21)
                rw [e]
                rfl
        · refine wx_aload_n C 0 dX4_edge_32 rfl rfl ?_
          refine gf_X4_54 C dX4_edge_33 ?_
          refine wx_goto C 43 dX4_edge_36 (by decide) ?_
          refine wx_i2l C dX4_edge_43 ?_
          refine wx_aload_n C 0 dX4_edge_44 rfl rfl ?_
          refine gf_X4_9 C dX4_edge_45 ?_
          refine wx_i2l C dX4_edge_48 ?_
          refine wx_lmul C dX4_edge_49 ?_
          refine wx_iload C 6 dX4_edge_50 rfl ?_
          refine wx_iload_n C 3 dX4_edge_52 rfl rfl ?_
          refine wx_imul C dX4_edge_53 ?_
          refine wx_i2l C dX4_edge_54 ?_
          refine wx_ladd C dX4_edge_55 ?_
          refine wx_nml (fun x8 hx8 => ?_)
          refine wx_lstore C [1, 2, 3, 4, 5, 6, 7, 0] [(0, .ref (X.1.1 + 7)), (1, .ref (X.1.1 + k)), (2, .int ax), (3, .int h), (4, .int (bI w)), (5, .long (edS (cLp M ax r l) h w i)), (7, .int (vs i)), (8, .long x8)] dX4_edge_56 (by decide) rfl ?_
          have hA := hab (bI_n0.mp c24)
          have hx8 : x8 = thr (M 7 1) (if w then spG (cLp M ax r l) (vs i) else spL (cLp M ax r l) (vs i)) (vs i) h := by
            rw [hx8]
            first
            | (rw [if_pos (bI_n0.mp c29), ← hA.2]; rfl)
            | (rw [if_neg (show ¬ w = true by rw [bI_0.mp c29]; decide), ← hA.1]; rfl)
          refine wx_lload C 5 dX4_edge_58 rfl ?_
          refine wx_ldc2 C w3_75 dX4_edge_60 ?_
          refine wx_lcmp C dX4_edge_63 ?_
          refine wx_if_eq C 91 dX4_edge_64 (by decide) (fun c64 => ?_) (fun c64 => ?_)
          · refine wx_lload C 7 dX4_edge_91 rfl ?_
            refine wx_lstore C [1, 2, 3, 4, 5, 0, 6, 7] [(0, .ref (X.1.1 + 7)), (1, .ref (X.1.1 + k)), (2, .int ax), (3, .int h), (4, .int (bI w)), (5, .long x8), (7, .int (vs i)), (8, .long x8)] dX4_edge_93 (by decide) rfl ?_
            refine wx_iinc C (v := (vs (i + 1))) 6 [1, 2, 3, 4, 5, 6, 0, 7] [(0, .ref (X.1.1 + 7)), (1, .ref (X.1.1 + k)), (2, .int ax), (3, .int h), (4, .int (bI w)), (5, .long x8), (7, .int (vs (i + 1))), (8, .long x8)] dX4_edge_95 rfl (vs_1 i) (by decide) rfl ?_
            refine wx_goto C 9 dX4_edge_98 (by decide) ?_
            have e := edS_1 (p := cLp M ax r l) (h := h) (w := w) (bI_n0.mp c24) hx8
            rw [if_pos (by first | exact Or.inl ((lg_cmp_eq _ _).mp c64) | (refine Or.inr ?_; rw [if_pos (bI_n0.mp c69)]; exact (lg_cmp_gt _ _).mp (Int32.not_le.mp c77)) | (refine Or.inr ?_; rw [if_neg (show ¬ w = true by rw [bI_0.mp c69]; decide)]; exact (lg_cmp_lt _ _).mp (Int32.not_le.mp c88)))] at e
            refine wx_sub [0, 1, 2, 3, 4, 5, 6] ?_ (ih (i + 1) (by omega) (by omega) a21 b21)
            rw [e]
            rfl
          · refine wx_iload C 4 dX4_edge_67 rfl ?_
            refine wx_if_eq C 83 dX4_edge_69 (by decide) (fun c69 => ?_) (fun c69 => ?_)
            · refine wx_lload C 7 dX4_edge_83 rfl ?_
              refine wx_lload C 5 dX4_edge_85 rfl ?_
              refine wx_lcmp C dX4_edge_87 ?_
              refine wx_if_ge C 95 dX4_edge_88 (by decide) (fun c88 => ?_) (fun c88 => ?_)
              · refine wx_iinc C (v := (vs (i + 1))) 6 [1, 2, 3, 4, 5, 6, 0, 7] [(0, .ref (X.1.1 + 7)), (1, .ref (X.1.1 + k)), (2, .int ax), (3, .int h), (4, .int (bI w)), (5, .long (edS (cLp M ax r l) h w i)), (7, .int (vs (i + 1))), (8, .long x8)] dX4_edge_95 rfl (vs_1 i) (by decide) rfl ?_
                refine wx_goto C 9 dX4_edge_98 (by decide) ?_
                have e := edS_1 (p := cLp M ax r l) (h := h) (w := w) (bI_n0.mp c24) hx8
                rw [if_neg (by intro z; rcases z with z | z; exact c64 ((lg_cmp_eq _ _).mpr z); first | (rw [if_pos (bI_n0.mp c69)] at z; exact absurd ((lg_cmp_gt _ _).mpr z) (Int32.not_lt.mpr c77)) | (rw [if_neg (show ¬ w = true by rw [bI_0.mp c69]; decide)] at z; exact absurd ((lg_cmp_lt _ _).mpr z) (Int32.not_lt.mpr c88)))] at e
                refine wx_sub [0, 1, 2, 3, 4, 5, 6] ?_ (ih (i + 1) (by omega) (by omega) a21 b21)
                rw [e]
                rfl
              · refine wx_lload C 7 dX4_edge_91 rfl ?_
                refine wx_lstore C [1, 2, 3, 4, 5, 0, 6, 7] [(0, .ref (X.1.1 + 7)), (1, .ref (X.1.1 + k)), (2, .int ax), (3, .int h), (4, .int (bI w)), (5, .long x8), (7, .int (vs i)), (8, .long x8)] dX4_edge_93 (by decide) rfl ?_
                refine wx_iinc C (v := (vs (i + 1))) 6 [1, 2, 3, 4, 5, 6, 0, 7] [(0, .ref (X.1.1 + 7)), (1, .ref (X.1.1 + k)), (2, .int ax), (3, .int h), (4, .int (bI w)), (5, .long x8), (7, .int (vs (i + 1))), (8, .long x8)] dX4_edge_95 rfl (vs_1 i) (by decide) rfl ?_
                refine wx_goto C 9 dX4_edge_98 (by decide) ?_
                have e := edS_1 (p := cLp M ax r l) (h := h) (w := w) (bI_n0.mp c24) hx8
                rw [if_pos (by first | exact Or.inl ((lg_cmp_eq _ _).mp c64) | (refine Or.inr ?_; rw [if_pos (bI_n0.mp c69)]; exact (lg_cmp_gt _ _).mp (Int32.not_le.mp c77)) | (refine Or.inr ?_; rw [if_neg (show ¬ w = true by rw [bI_0.mp c69]; decide)]; exact (lg_cmp_lt _ _).mp (Int32.not_le.mp c88)))] at e
                refine wx_sub [0, 1, 2, 3, 4, 5, 6] ?_ (ih (i + 1) (by omega) (by omega) a21 b21)
                rw [e]
                rfl
            · refine wx_lload C 7 dX4_edge_72 rfl ?_
              refine wx_lload C 5 dX4_edge_74 rfl ?_
              refine wx_lcmp C dX4_edge_76 ?_
              refine wx_if_le C 95 dX4_edge_77 (by decide) (fun c77 => ?_) (fun c77 => ?_)
              · refine wx_iinc C (v := (vs (i + 1))) 6 [1, 2, 3, 4, 5, 6, 0, 7] [(0, .ref (X.1.1 + 7)), (1, .ref (X.1.1 + k)), (2, .int ax), (3, .int h), (4, .int (bI w)), (5, .long (edS (cLp M ax r l) h w i)), (7, .int (vs (i + 1))), (8, .long x8)] dX4_edge_95 rfl (vs_1 i) (by decide) rfl ?_
                refine wx_goto C 9 dX4_edge_98 (by decide) ?_
                have e := edS_1 (p := cLp M ax r l) (h := h) (w := w) (bI_n0.mp c24) hx8
                rw [if_neg (by intro z; rcases z with z | z; exact c64 ((lg_cmp_eq _ _).mpr z); first | (rw [if_pos (bI_n0.mp c69)] at z; exact absurd ((lg_cmp_gt _ _).mpr z) (Int32.not_lt.mpr c77)) | (rw [if_neg (show ¬ w = true by rw [bI_0.mp c69]; decide)] at z; exact absurd ((lg_cmp_lt _ _).mpr z) (Int32.not_lt.mpr c88)))] at e
                refine wx_sub [0, 1, 2, 3, 4, 5, 6] ?_ (ih (i + 1) (by omega) (by omega) a21 b21)
                rw [e]
                rfl
              · refine wx_goto C 91 dX4_edge_80 (by decide) ?_
                refine wx_lload C 7 dX4_edge_91 rfl ?_
                refine wx_lstore C [1, 2, 3, 4, 5, 0, 6, 7] [(0, .ref (X.1.1 + 7)), (1, .ref (X.1.1 + k)), (2, .int ax), (3, .int h), (4, .int (bI w)), (5, .long x8), (7, .int (vs i)), (8, .long x8)] dX4_edge_93 (by decide) rfl ?_
                refine wx_iinc C (v := (vs (i + 1))) 6 [1, 2, 3, 4, 5, 6, 0, 7] [(0, .ref (X.1.1 + 7)), (1, .ref (X.1.1 + k)), (2, .int ax), (3, .int h), (4, .int (bI w)), (5, .long x8), (7, .int (vs (i + 1))), (8, .long x8)] dX4_edge_95 rfl (vs_1 i) (by decide) rfl ?_
                refine wx_goto C 9 dX4_edge_98 (by decide) ?_
                have e := edS_1 (p := cLp M ax r l) (h := h) (w := w) (bI_n0.mp c24) hx8
                rw [if_pos (by first | exact Or.inl ((lg_cmp_eq _ _).mp c64) | (refine Or.inr ?_; rw [if_pos (bI_n0.mp c69)]; exact (lg_cmp_gt _ _).mp (Int32.not_le.mp c77)) | (refine Or.inr ?_; rw [if_neg (show ¬ w = true by rw [bI_0.mp c69]; decide)]; exact (lg_cmp_lt _ _).mp (Int32.not_le.mp c88)))] at e
                refine wx_sub [0, 1, 2, 3, 4, 5, 6] ?_ (ih (i + 1) (by omega) (by omega) a21 b21)
                rw [e]
                rfl
set_option maxHeartbeats 4000000 in
set_option maxRecDepth 100000 in
theorem t_X4_edge (G : g_G) (M : g_M) (L : g_L) {k l : Nat} {r : Nat → Nat} (hk : rok M k l r) (hg0 : 1 ≤ (M 7 1).toInt) (ax h : Int32) (w : Bool) : mt G yX4_edge (Cond.code yX4_edge cX4_edge 10 (some .long)) 2 [.ref (G.1 + 7), .ref (G.1 + k), .int ax, .int h, .int (bI w)] M L (qL fun v M' L' => L = L' ∧ v = edS (cLp M ax r l) h w 41 ∧ ∃ a b, M' = nt M a b) := by
  refine mt_of (by decide) rfl (Nat.le_of_ble_eq_true rfl) [(0, .ref (G.1 + 7)), (1, .ref (G.1 + k)), (2, .int ax), (3, .int h), (4, .int (bI w))] rfl (fun X hG C hQ => ?_)
  subst hG
  refine wx_ldc2 C w3_75 dX4_edge_0 ?_
  refine wx_lstore C [1, 2, 3, 4, 5, 0] [(0, .ref (X.1.1 + 7)), (1, .ref (X.1.1 + k)), (2, .int ax), (3, .int h), (4, .int (bI w)), (5, .long (-9223372036854775808))] dX4_edge_3 (by decide) rfl ?_
  refine wx_bipush C (-20) dX4_edge_5 (by decide) ?_
  refine wx_istore C [1, 2, 3, 4, 5, 6, 0] [(0, .ref (X.1.1 + 7)), (1, .ref (X.1.1 + k)), (2, .int ax), (3, .int h), (4, .int (bI w)), (5, .long (-9223372036854775808)), (7, .int (-20))] dX4_edge_7 (by decide) rfl ?_
  have h := lp_X4_edge C hQ hk hg0 (h := h) (w := w) (fun a b => ⟨_, rfl, rfl, rfl, a, b, rfl⟩) 42 0 (by omega) (by omega) (M 7 3) (M 7 4)
  rw [nt_self] at h
  exact h
