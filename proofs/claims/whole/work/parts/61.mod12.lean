/-! ===== the reference: bitsOf, isSoundWithout, part ===== -/
def bo (j : Nat) : Nat := j &&& (j - 1)
theorem bo_1 : ∀ j, j < 256 → j ≠ 0 → nI j &&& (nI j - 1) = nI (bo j) ∧ bo j < j ∧ pop8 (bo j) + 1 = pop8 j := by decide +kernel
set_option maxHeartbeats 4000000 in
set_option maxRecDepth 100000 in
theorem lp_X11_bitsOf {X : g_X} {Qr : Option Value → g_M → g_L → Prop} (C : Cx X cX11_bitsOf 3 RX11 (some .int) 0) (hQ : Rx X Qr) {M : g_M} {L : g_L} {x : Int32} : ∀ (k j c : Nat), j < k → j < 256 → Qr (some (.int (nI (c + pop8 j)))) M L → wx X M L 4 [(0, .int x), (1, .int (nI c)), (2, .int (nI j))] [] := by
  intro k
  induction k with
  | zero =>
    intro j c h
    exact absurd h (by omega)
  | succ k ih =>
    intro j c hk hj hp
    refine wx_iload_n C 2 dX11_bitsOf_4 rfl rfl ?_
    refine wx_if_eq C 20 dX11_bitsOf_5 (by decide) (fun c5 => ?_) (fun c5 => ?_)
    · refine wx_iload_n C 1 dX11_bitsOf_20 rfl rfl ?_
      refine wx_iret C hQ dX11_bitsOf_21 ?_
      have hj0 : j = 0 := nI_inj (by omega) (by decide) c5
      subst hj0
      exact hp
    · refine wx_iinc C (v := (nI (c + 1))) 1 [1, 0, 2] [(0, .int x), (1, .int (nI (c + 1))), (2, .int (nI j))] dX11_bitsOf_8 rfl (nI_1 _) (by decide) rfl ?_
      refine wx_iload_n C 2 dX11_bitsOf_11 rfl rfl ?_
      refine wx_iload_n C 2 dX11_bitsOf_12 rfl rfl ?_
      refine wx_iconst C 1 dX11_bitsOf_13 (by decide) ?_
      refine wx_isub C dX11_bitsOf_14 ?_
      refine wx_iand C dX11_bitsOf_15 ?_
      refine wx_istore_n C [1, 2, 0] [(0, .int x), (1, .int (nI (c + 1))), (2, .int ((nI j) &&& ((nI j) - 1)))] dX11_bitsOf_16 rfl (by decide) rfl ?_
      refine wx_goto C 4 dX11_bitsOf_17 (by decide) ?_
      have hj0 : j ≠ 0 := fun z => c5 (by rw [z]; rfl)
      obtain ⟨h1, h2, h3⟩ := bo_1 j hj hj0
      rw [h1]
      exact wx_sub [0, 1, 2] rfl (ih (bo j) (c + 1) (by omega) (by omega) (by rw [show c + 1 + pop8 (bo j) = c + pop8 j by omega]; exact hp))
set_option maxHeartbeats 4000000 in
set_option maxRecDepth 100000 in
theorem t_X11_bitsOf (G : g_G) (M : g_M) (L : g_L) {x : Int32} {m : Nat} (hx : x = nI m) (hm : m < 256) : mt G yX11_bitsOf (Cond.code yX11_bitsOf cX11_bitsOf 3 (some .int)) 0 [.int x] M L (qI fun v M' L' => v = nI (pop8 m) ∧ M = M' ∧ L = L') := by
  refine mt_of (by decide) rfl (Nat.le_of_ble_eq_true rfl) [(0, .int x)] rfl (fun X hG C hQ => ?_)
  subst hG
  refine wx_iconst C 0 dX11_bitsOf_0 (by decide) ?_
  refine wx_istore_n C [1, 0] [(0, .int x), (1, .int 0)] dX11_bitsOf_1 rfl (by decide) rfl ?_
  refine wx_iload_n C 0 dX11_bitsOf_2 rfl rfl ?_
  refine wx_istore_n C [1, 2, 0] [(0, .int x), (1, .int 0), (2, .int x)] dX11_bitsOf_3 rfl (by decide) rfl ?_
  rw [hx]
  exact lp_X11_bitsOf C hQ 256 m 0 hm hm ⟨_, rfl, by rw [Nat.zero_add], rfl, rfl⟩
/-! which places stay -/
def swQ (m : Nat) : Nat → Bool := fun k => decide ((nI m >>> (nI k &&& 31)) &&& 1 = 0)
theorem sw_bit : ∀ m, m < 256 → ∀ k, k < 8 → (nI m >>> (nI k &&& 31)) &&& 1 = nI (m / 2 ^ k % 2) := by decide +kernel
def ksF (M : g_M) (p : Nat) (Q : Nat → Bool) (i : Nat) : Nat → Int32 := fun j => M 157 (8 * p + (kS Q i).2 j)
theorem ksF_1 (M : g_M) (p : Nat) (Q : Nat → Bool) (i : Nat) (h : Q i = true) : g_st (g_st (tk M (kS Q i).1 (ksF M p Q i) (kS Q i).1) 159 (kS Q i).1 (M 157 (8 * p + i))) 149 15 (nI ((kS Q i).1 + 1)) = tk M (kS Q (i + 1)).1 (ksF M p Q (i + 1)) (kS Q (i + 1)).1 := by
  have e1 : (kS Q (i + 1)).1 = (kS Q i).1 + 1 := by rw [kS, if_pos h]
  have e2 : ∀ j, (kS Q (i + 1)).2 j = if j = (kS Q i).1 then i else (kS Q i).2 j := fun j => by rw [kS, if_pos h]
  have e3 : ksF M p Q (i + 1) (kS Q i).1 = M 157 (8 * p + i) := by unfold ksF; rw [e2, if_pos rfl]
  rw [e1, ← tk_add, e3, tk_cg M _ (F := ksF M p Q (i + 1)) (H := ksF M p Q i)]
  intro j hj
  unfold ksF
  rw [e2, if_neg (by omega)]
theorem ksF_2 (M : g_M) (p : Nat) (Q : Nat → Bool) (i : Nat) (h : Q i = false) : tk M (kS Q i).1 (ksF M p Q i) (kS Q i).1 = tk M (kS Q (i + 1)).1 (ksF M p Q (i + 1)) (kS Q (i + 1)).1 := by
  have e1 : kS Q (i + 1) = kS Q i := by rw [kS, if_neg (by rw [h]; decide)]
  unfold ksF
  rw [e1]
set_option maxHeartbeats 4000000 in
set_option maxRecDepth 100000 in
theorem lp_X11_isSoundWithout {X : g_X} {Qr : Option Value → g_M → g_L → Prop} (C : Cx X cX11_isSoundWithout 4 RX11 (some .boolean) 4) (hQ : Rx X Qr) {M : g_M} {L : g_L} {p l m : Nat} {r : Nat → Nat} (hp12 : p < 12) (hm : m < 256) (hr : mrw M p l r) (hg : 1 ≤ (M 149 3).toInt) (hp : ∀ N, frM M N → Qr (some (.int (bI (msnd M (fun j => r ((kS (swQ m) l).2 j)) (kS (swQ m) l).1)))) N L) : ∀ (n i : Nat), i ≤ l → l < i + n → wx X (tk M (kS (swQ m) i).1 (ksF M p (swQ m) i) (kS (swQ m) i).1) L 7 [(0, .ref (X.1.1 + 149)), (1, .int (nI p)), (2, .int (nI m)), (3, .int (nI i))] [] := by
  intro n
  induction n with
  | zero =>
    intro i h1 h2
    exact absurd h2 (by omega)
  | succ n ih =>
    intro i hi0 hin
    have h8 := hr.2.1
    have hkl := kS_le (swQ m) i
    have fr := frM_tk M (kS (swQ m) i).1 (ksF M p (swQ m) i) (kS (swQ m) i).1
    have h156 : (tk M (kS (swQ m) i).1 (ksF M p (swQ m) i) (kS (swQ m) i).1) 156 p = nI l := by rw [tk_o _ _ _ _ _ (by decide) (by decide)]; exact hr.1
    refine wx_iload_n C 3 dX11_isSoundWithout_7 rfl rfl ?_
    refine wx_aload_n C 0 dX11_isSoundWithout_8 rfl rfl ?_
    refine gf_X11_38 C dX11_isSoundWithout_9 ?_
    refine wx_iload_n C 1 dX11_isSoundWithout_12 rfl rfl ?_
    refine wx_iald C 156 p (by decide) (fun _ _ => rfl) (by decide) dX11_isSoundWithout_13 rfl (by omega) ?_
    refine wx_icmp_ge C 46 dX11_isSoundWithout_14 (by decide) (fun c14 => ?_) (fun c14 => ?_)
    · have hib : i = l := by
        rw [h156] at c14
        exact Nat.le_antisymm hi0 ((nI_leI (by omega) (by omega)).mp c14)
      have hk : sok (tk M (kS (swQ m) i).1 (ksF M p (swQ m) i) (kS (swQ m) i).1) (kS (swQ m) i).1 (fun j => r ((kS (swQ m) i).2 j)) := tk_ok (by omega) (fun j hj => hr.2.2 _ (by have := kS_lt (swQ m) i j hj; omega))
      refine wx_aload_n C 0 dX11_isSoundWithout_46 rfl rfl ?_
      refine ca_X11_131 C (rest := []) (t_heap X.1 (tk M (kS (swQ m) i).1 (ksF M p (swQ m) i) (kS (swQ m) i).1) L hk (fr.g hg)) (by decide) rfl (by decide) rfl rfl (Nat.le_of_ble_eq_true rfl) dX11_isSoundWithout_47 (kI fun r47 M47 L47 q47 => ?_)
      obtain ⟨rfl, rfl, a47, b47, rfl⟩ := q47
      rw [fr.eS, hib]
      refine wx_zret C hQ dX11_isSoundWithout_50 (bI_nar _) ?_
      rw [hib] at fr
      exact hp _ (fr.trans (frM_mn _ _ _))
    · have hi : i < l := by
        rw [h156] at c14
        exact Nat.lt_of_not_le (fun h => c14 ((nI_leI (by omega) (by omega)).mpr h))
      refine wx_iload_n C 2 dX11_isSoundWithout_17 rfl rfl ?_
      refine wx_iload_n C 3 dX11_isSoundWithout_18 rfl rfl ?_
      refine wx_ishr C dX11_isSoundWithout_19 ?_
      refine wx_iconst C 1 dX11_isSoundWithout_20 (by decide) ?_
      refine wx_iand C dX11_isSoundWithout_21 ?_
      refine wx_if_ne C 40 dX11_isSoundWithout_22 (by decide) (fun c22 => ?_) (fun c22 => ?_)
      · refine wx_iinc C (v := (nI (i + 1))) 3 [1, 2, 3, 0] [(0, .ref (X.1.1 + 149)), (1, .int (nI p)), (2, .int (nI m)), (3, .int (nI (i + 1)))] dX11_isSoundWithout_40 rfl (nI_1 _) (by decide) rfl ?_
        refine wx_goto C 7 dX11_isSoundWithout_43 (by decide) ?_
        rw [ksF_2 M p (swQ m) i (decide_eq_false c22)]
        exact ih (i + 1) (by omega) (by omega)
      · have hQi : (swQ m) i = true := decide_eq_true c22
        have h157 : (tk M (kS (swQ m) i).1 (ksF M p (swQ m) i) (kS (swQ m) i).1) 157 (8 * p + i) = M 157 (8 * p + i) := by rw [tk_o _ _ _ _ _ (by decide) (by decide)]
        refine wx_aload_n C 0 dX11_isSoundWithout_25 rfl rfl ?_
        refine wx_aload_n C 0 dX11_isSoundWithout_26 rfl rfl ?_
        refine gf_X11_41 C dX11_isSoundWithout_27 ?_
        refine wx_bipush C 8 dX11_isSoundWithout_30 (by decide) ?_
        refine wx_iload_n C 1 dX11_isSoundWithout_32 rfl rfl ?_
        refine wx_imul C dX11_isSoundWithout_33 ?_
        refine wx_iload_n C 3 dX11_isSoundWithout_34 rfl rfl ?_
        refine wx_iadd C dX11_isSoundWithout_35 ?_
        refine wx_iald C 157 (8 * p + i) (by decide) (fun _ _ => rfl) (by decide) dX11_isSoundWithout_36 (by rw [show (8 : Int32) = nI 8 from rfl, pk_mul, nI_add]) (by omega) ?_
        refine ca_X11_163 C (rest := []) (t_X11_adds X.1 (tk M (kS (swQ m) i).1 (ksF M p (swQ m) i) (kS (swQ m) i).1) L (tk_c _ _ _ _) (by omega) _) (by decide) rfl (by decide) rfl rfl (Nat.le_of_ble_eq_true rfl) dX11_isSoundWithout_37 (kV fun M37 L37 q37 => ?_)
        obtain ⟨rfl, rfl⟩ := q37
        rw [h157, ksF_1 M p (swQ m) i hQi]
        refine wx_iinc C (v := (nI (i + 1))) 3 [1, 2, 3, 0] [(0, .ref (X.1.1 + 149)), (1, .int (nI p)), (2, .int (nI m)), (3, .int (nI (i + 1)))] dX11_isSoundWithout_40 rfl (nI_1 _) (by decide) rfl ?_
        refine wx_goto C 7 dX11_isSoundWithout_43 (by decide) ?_
        exact ih (i + 1) (by omega) (by omega)
set_option maxHeartbeats 4000000 in
set_option maxRecDepth 100000 in
theorem t_X11_isSoundWithout (G : g_G) (M : g_M) (L : g_L) {x y : Int32} {p l m : Nat} {r : Nat → Nat} (hx : x = nI p) (hp12 : p < 12) (hy : y = nI m) (hm : m < 256) (hr : mrw M p l r) (hg : 1 ≤ (M 149 3).toInt) : mt G yX11_isSoundWithout (Cond.code yX11_isSoundWithout cX11_isSoundWithout 4 (some .boolean)) 4 [.ref (G.1 + 149), .int x, .int y] M L (qI fun v M' L' => L = L' ∧ v = bI (msnd M (fun j => r ((kS (swQ m) l).2 j)) (kS (swQ m) l).1) ∧ frM M M') := by
  refine mt_of (by decide) rfl (Nat.le_of_ble_eq_true rfl) [(0, .ref (G.1 + 149)), (1, .int x), (2, .int y)] rfl (fun X hG C hQ => ?_)
  subst hG
  refine wx_aload_n C 0 dX11_isSoundWithout_0 rfl rfl ?_
  refine wx_iconst C 0 dX11_isSoundWithout_1 (by decide) ?_
  refine pf_X11_96 C dX11_isSoundWithout_2 ?_
  refine wx_iconst C 0 dX11_isSoundWithout_5 (by decide) ?_
  refine wx_istore_n C [1, 2, 3, 0] [(0, .ref (X.1.1 + 149)), (1, .int x), (2, .int y), (3, .int 0)] dX11_isSoundWithout_6 rfl (by decide) rfl ?_
  rw [hx, hy, show g_st M 149 15 0 = tk M (kS (swQ m) 0).1 (ksF M p (swQ m) 0) (kS (swQ m) 0).1 from tk_0 M 0 _]
  exact lp_X11_isSoundWithout C hQ hp12 hm hr hg (fun N hN => ⟨_, rfl, rfl, rfl, hN⟩) (l + 1) 0 (by omega) (by omega)
/-! the parting -/
def btr (i b : Nat) : Bool := decide (pop8 i < pop8 b) || (decide (pop8 i = pop8 b) && !decide ((nI i &&& (nI i ^^^ nI b)) &&& -(nI i ^^^ nI b) = 0))
def mp (T : Nat → Bool) (b : Nat) : Nat → Nat
  | 0 => b
  | i + 1 => if btr i (mp T b i) && T i then i else mp T b i
theorem mp_lt {T : Nat → Bool} {b u : Nat} (hb : b < u) : ∀ {i : Nat}, i ≤ u → mp T b i < u
  | 0, _ => hb
  | i + 1, h => by
    have h1 := mp_lt (T := T) hb (i := i) (by omega)
    rw [mp]
    split <;> omega
def mS (M : g_M) (r : Nat → Nat) (l m : Nat) : Bool := msnd M (fun j => r ((kS (swQ m) l).2 j)) (kS (swQ m) l).1
def mpB (M : g_M) (r : Nat → Nat) (l : Nat) : Nat := mp (mS M r l) (2 ^ l - 1) (2 ^ l)
theorem pow_l2 : ∀ l, l < 9 → (1 : Int32) <<< (nI l &&& 31) = nI (2 ^ l) := by decide
/-- the row, those that stay moved together -/
def cpM (M : g_M) (p : Nat) (Q : Nat → Bool) (i : Nat) : g_M := fun a b => if a = 157 ∧ 8 * p ≤ b ∧ b < 8 * p + (kS Q i).1 then M 157 (8 * p + (kS Q i).2 (b - 8 * p)) else M a b
theorem cpM_o (M : g_M) (p : Nat) (Q : Nat → Bool) (i : Nat) {a : Nat} (b : Nat) (h : a ≠ 157) : cpM M p Q i a b = M a b := by
  unfold cpM
  rw [if_neg (by omega)]
theorem cpM_0 (M : g_M) (p : Nat) (Q : Nat → Bool) : cpM M p Q 0 = M := by
  funext a b
  unfold cpM
  rw [if_neg (by show ¬ (a = 157 ∧ 8 * p ≤ b ∧ b < 8 * p + 0); omega)]
theorem cpM_1 (M : g_M) (p : Nat) (Q : Nat → Bool) (i : Nat) (h : Q i = true) : g_st (cpM M p Q i) 157 (8 * p + (kS Q i).1) (M 157 (8 * p + i)) = cpM M p Q (i + 1) := by
  have e1 : (kS Q (i + 1)).1 = (kS Q i).1 + 1 := by rw [kS, if_pos h]
  have e2 : ∀ j, (kS Q (i + 1)).2 j = if j = (kS Q i).1 then i else (kS Q i).2 j := fun j => by rw [kS, if_pos h]
  funext a b
  simp only [g_st_ap, cpM, e1, e2]
  by_cases hb : b = 8 * p + (kS Q i).1
  · subst hb
    rw [Nat.add_sub_cancel_left, if_pos rfl]
    (repeat' split) <;> first | rfl | (exfalso; omega)
  · rw [if_neg (show ¬ (a = 157 ∧ b = 8 * p + (kS Q i).1) from fun z => hb z.2)]
    by_cases hb2 : a = 157 ∧ 8 * p ≤ b ∧ b < 8 * p + (kS Q i).1
    · rw [if_pos hb2, if_pos (by omega), if_neg (by omega)]
    · rw [if_neg hb2, if_neg (by omega)]
theorem cpM_2 (M : g_M) (p : Nat) (Q : Nat → Bool) (i : Nat) (h : Q i = false) : cpM M p Q i = cpM M p Q (i + 1) := by
  have e1 : kS Q (i + 1) = kS Q i := by rw [kS, if_neg (by rw [h]; decide)]
  unfold cpM
  rw [e1]
def ptM (N : g_M) (n e fa ac p l m : Nat) (sz : Nat → Nat) (rr : Nat → Nat → Nat) : g_M := oz (ow1 (g_st (cpM (mKP N fa ac) p (swQ m) l) 156 p (nI (kS (swQ m) l).1)) n) (fun q => if q = p then (kS (swQ m) l).1 else sz q) (fun q => if q = p then fun j => rr p ((kS (swQ m) l).2 j) else rr q) e
theorem btr_1 {i b : Nat} (h : ¬ nI (pop8 b) < nI (pop8 i)) (h2 : ¬ nI (pop8 i) = nI (pop8 b)) : btr i b = true := by
  have a1 := pop8_le i
  have a2 := pop8_le b
  rw [nI_ltI (by omega) (by omega)] at h
  rw [nI_eq (by omega) (by omega)] at h2
  unfold btr
  rw [decide_eq_true (by omega), Bool.true_or]
theorem btr_2 {i b : Nat} (h2 : nI (pop8 i) = nI (pop8 b)) (h3 : ¬ (nI i &&& (nI i ^^^ nI b)) &&& -(nI i ^^^ nI b) = 0) : btr i b = true := by
  have a1 := pop8_le i
  have a2 := pop8_le b
  rw [nI_eq (by omega) (by omega)] at h2
  unfold btr
  rw [decide_eq_true h2, decide_eq_false h3, Bool.true_and, Bool.not_false, Bool.or_true]
theorem btr_3 {i b : Nat} (h : nI (pop8 b) < nI (pop8 i)) : ¬ btr i b = true := by
  have a1 := pop8_le i
  have a2 := pop8_le b
  rw [nI_ltI (by omega) (by omega)] at h
  unfold btr
  rw [decide_eq_false (by omega), decide_eq_false (show ¬ pop8 i = pop8 b by omega)]
  simp
theorem btr_4 {i b : Nat} (h2 : nI (pop8 i) = nI (pop8 b)) (h3 : (nI i &&& (nI i ^^^ nI b)) &&& -(nI i ^^^ nI b) = 0) : ¬ btr i b = true := by
  have a1 := pop8_le i
  have a2 := pop8_le b
  rw [nI_eq (by omega) (by omega)] at h2
  unfold btr
  rw [decide_eq_false (show ¬ pop8 i < pop8 b by omega), decide_eq_true h3]
  simp
set_option maxHeartbeats 4000000 in
set_option maxRecDepth 100000 in
theorem lp_X11_part {X : g_X} {Qr : Option Value → g_M → g_L → Prop} (C : Cx X cX11_part 7 RX11 (some .int) 5) (hQ : Rx X Qr) {M : g_M} {L : g_L} {p l : Nat} {r : Nat → Nat} (hp12 : p < 12) (hr : mrw M p l r) (hg : 1 ≤ (M 149 3).toInt) (K : ∀ N, frM M N → wx X N L 97 [(0, .ref (X.1.1 + 149)), (1, .int (nI p)), (2, .int (nI (mpB M r l))), (3, .int (nI (2 ^ l)))] []) : ∀ (kk i : Nat), i ≤ 2 ^ l → 2 ^ l < i + kk → ∀ (N : g_M), frM M N → wx X N L 23 [(0, .ref (X.1.1 + 149)), (1, .int (nI p)), (2, .int (nI (mp (mS M r l) (2 ^ l - 1) i))), (3, .int (nI i))] [] := by
  intro kk
  induction kk with
  | zero =>
    intro i h1 h2
    exact absurd h2 (by omega)
  | succ kk ih =>
    intro i hi0 hin N hN
    have h8 := hr.2.1
    have hpw := pow_l l (by omega)
    have hrN := hN.w hr
    have hbl : (mp (mS M r l) (2 ^ l - 1) i) < 2 ^ l := mp_lt (by omega) hi0
    refine wx_iload_n C 3 dX11_part_23 rfl rfl ?_
    refine wx_iconst C 1 dX11_part_24 (by decide) ?_
    refine wx_aload_n C 0 dX11_part_25 rfl rfl ?_
    refine gf_X11_38 C dX11_part_26 ?_
    refine wx_iload_n C 1 dX11_part_29 rfl rfl ?_
    refine wx_iald C 156 p (by decide) (fun _ _ => rfl) (by decide) dX11_part_30 rfl hp12 ?_
    refine wx_ishl C dX11_part_31 ?_
    refine wx_icmp_ge C 97 dX11_part_32 (by decide) (fun c32 => ?_) (fun c32 => ?_)
    · have hib : i = 2 ^ l := by
        rw [hrN.1, pow_l2 l (by omega)] at c32
        exact Nat.le_antisymm hi0 ((nI_leI (by omega) (by omega)).mp c32)
      rw [hib]
      exact K N hN
    · have hi : i < 2 ^ l := by
        rw [hrN.1, pow_l2 l (by omega)] at c32
        exact Nat.lt_of_not_le (fun h => c32 ((nI_leI (by omega) (by omega)).mpr h))
      refine wx_iload_n C 3 dX11_part_35 rfl rfl ?_
      refine ca_X11_223 C (rest := []) (t_X11_bitsOf X.1 N L (m := i) rfl (by omega)) (by decide) rfl rfl (Nat.le_of_ble_eq_true rfl) dX11_part_36 (kI fun r36 M36 L36 q36 => ?_)
      obtain ⟨rfl, rfl, rfl⟩ := q36
      refine wx_istore C [1, 2, 3, 4, 0] [(0, .ref (X.1.1 + 149)), (1, .int (nI p)), (2, .int (nI (mp (mS M r l) (2 ^ l - 1) i))), (3, .int (nI i)), (4, .int (nI (pop8 i)))] dX11_part_39 (by decide) rfl ?_
      refine wx_iload_n C 2 dX11_part_41 rfl rfl ?_
      refine ca_X11_223 C (rest := []) (t_X11_bitsOf X.1 N L (m := (mp (mS M r l) (2 ^ l - 1) i)) rfl (by omega)) (by decide) rfl rfl (Nat.le_of_ble_eq_true rfl) dX11_part_42 (kI fun r42 M42 L42 q42 => ?_)
      obtain ⟨rfl, rfl, rfl⟩ := q42
      refine wx_istore C [1, 2, 3, 4, 5, 0] [(0, .ref (X.1.1 + 149)), (1, .int (nI p)), (2, .int (nI (mp (mS M r l) (2 ^ l - 1) i))), (3, .int (nI i)), (4, .int (nI (pop8 i))), (5, .int (nI (pop8 (mp (mS M r l) (2 ^ l - 1) i))))] dX11_part_45 (by decide) rfl ?_
      refine wx_iload_n C 3 dX11_part_47 rfl rfl ?_
      refine wx_iload_n C 2 dX11_part_48 rfl rfl ?_
      refine wx_ixor C dX11_part_49 ?_
      refine wx_nmi (fun df hdf => ?_)
      refine wx_istore C [1, 2, 3, 4, 5, 6, 0] [(0, .ref (X.1.1 + 149)), (1, .int (nI p)), (2, .int (nI (mp (mS M r l) (2 ^ l - 1) i))), (3, .int (nI i)), (4, .int (nI (pop8 i))), (5, .int (nI (pop8 (mp (mS M r l) (2 ^ l - 1) i)))), (6, .int df)] dX11_part_50 (by decide) rfl ?_
      refine wx_iload C 4 dX11_part_52 rfl ?_
      refine wx_iload C 5 dX11_part_54 rfl ?_
      refine wx_icmp_gt C 91 dX11_part_56 (by decide) (fun c56 => ?_) (fun c56 => ?_)
      · refine wx_iinc C (v := (nI (i + 1))) 3 [1, 2, 3, 0, 4, 5, 6] [(0, .ref (X.1.1 + 149)), (1, .int (nI p)), (2, .int (nI (mp (mS M r l) (2 ^ l - 1) i))), (3, .int (nI (i + 1))), (4, .int (nI (pop8 i))), (5, .int (nI (pop8 (mp (mS M r l) (2 ^ l - 1) i)))), (6, .int df)] dX11_part_91 rfl (nI_1 _) (by decide) rfl ?_
        refine wx_goto C 23 dX11_part_94 (by decide) ?_
        have hz : mp (mS M r l) (2 ^ l - 1) (i + 1) = (mp (mS M r l) (2 ^ l - 1) i) := by
          rw [mp, if_neg]
          rw [Bool.and_eq_true]
          rintro ⟨z1, z2⟩
          first
          | exact btr_3 c56 z1
          | exact hb4 c74 z1
          | (have hc := bI_0.mp c83; exact absurd z2 (Bool.eq_false_iff.mp hc))
        refine wx_sub [0, 1, 2, 3] rfl ?_
        have q := ih (i + 1) (by omega) (by omega) _ hN
        rw [hz] at q
        exact q
      · have hb1 : ¬ nI (pop8 i) = nI (pop8 (mp (mS M r l) (2 ^ l - 1) i)) → btr i (mp (mS M r l) (2 ^ l - 1) i) = true := btr_1 c56
        refine wx_iload C 4 dX11_part_59 rfl ?_
        refine wx_iload C 5 dX11_part_61 rfl ?_
        refine wx_icmp_ne C 77 dX11_part_63 (by decide) (fun c63 => ?_) (fun c63 => ?_)
        · refine wx_aload_n C 0 dX11_part_77 rfl rfl ?_
          refine wx_iload_n C 1 dX11_part_78 rfl rfl ?_
          refine wx_iload_n C 3 dX11_part_79 rfl rfl ?_
          refine ca_X11_226 C (rest := []) (t_X11_isSoundWithout X.1 N L (p := p) (m := i) rfl hp12 rfl (by omega) hrN (hN.g hg)) (by decide) rfl (by decide) rfl rfl (Nat.le_of_ble_eq_true rfl) dX11_part_80 (kI fun r80 N80 L80 q80 => ?_)
          obtain ⟨rfl, rfl, fr⟩ := q80
          rw [hN.eS]
          refine wx_if_ne C 89 dX11_part_83 (by decide) (fun c83 => ?_) (fun c83 => ?_)
          · refine wx_iload_n C 3 dX11_part_89 rfl rfl ?_
            refine wx_istore_n C [1, 2, 0, 3, 4, 5, 6] [(0, .ref (X.1.1 + 149)), (1, .int (nI p)), (2, .int (nI i)), (3, .int (nI i)), (4, .int (nI (pop8 i))), (5, .int (nI (pop8 (mp (mS M r l) (2 ^ l - 1) i)))), (6, .int df)] dX11_part_90 rfl (by decide) rfl ?_
            refine wx_iinc C (v := (nI (i + 1))) 3 [1, 2, 3, 0, 4, 5, 6] [(0, .ref (X.1.1 + 149)), (1, .int (nI p)), (2, .int (nI i)), (3, .int (nI (i + 1))), (4, .int (nI (pop8 i))), (5, .int (nI (pop8 (mp (mS M r l) (2 ^ l - 1) i)))), (6, .int df)] dX11_part_91 rfl (nI_1 _) (by decide) rfl ?_
            refine wx_goto C 23 dX11_part_94 (by decide) ?_
            have hz : mp (mS M r l) (2 ^ l - 1) (i + 1) = i := by
              rw [mp, if_pos]
              rw [Bool.and_eq_true]
              refine ⟨?_, bI_n0.mp c83⟩
              first
              | exact hb1 c63
              | exact hb2 c74
            refine wx_sub [0, 1, 2, 3] rfl ?_
            have q := ih (i + 1) (by omega) (by omega) _ (hN.trans fr)
            rw [hz] at q
            exact q
          · refine wx_goto C 91 dX11_part_86 (by decide) ?_
            refine wx_iinc C (v := (nI (i + 1))) 3 [1, 2, 3, 0, 4, 5, 6] [(0, .ref (X.1.1 + 149)), (1, .int (nI p)), (2, .int (nI (mp (mS M r l) (2 ^ l - 1) i))), (3, .int (nI (i + 1))), (4, .int (nI (pop8 i))), (5, .int (nI (pop8 (mp (mS M r l) (2 ^ l - 1) i)))), (6, .int df)] dX11_part_91 rfl (nI_1 _) (by decide) rfl ?_
            refine wx_goto C 23 dX11_part_94 (by decide) ?_
            have hz : mp (mS M r l) (2 ^ l - 1) (i + 1) = (mp (mS M r l) (2 ^ l - 1) i) := by
              rw [mp, if_neg]
              rw [Bool.and_eq_true]
              rintro ⟨z1, z2⟩
              first
              | exact btr_3 c56 z1
              | exact hb4 c74 z1
              | (have hc := bI_0.mp c83; exact absurd z2 (Bool.eq_false_iff.mp hc))
            refine wx_sub [0, 1, 2, 3] rfl ?_
            have q := ih (i + 1) (by omega) (by omega) _ (hN.trans fr)
            rw [hz] at q
            exact q
        · have hb2 : ¬ (nI i &&& df) &&& -df = 0 → btr i (mp (mS M r l) (2 ^ l - 1) i) = true := fun z => btr_2 c63 (by rw [← hdf]; exact z)
          have hb4 : (nI i &&& df) &&& -df = 0 → ¬ btr i (mp (mS M r l) (2 ^ l - 1) i) = true := fun z => btr_4 c63 (by rw [← hdf]; exact z)
          refine wx_iload_n C 3 dX11_part_66 rfl rfl ?_
          refine wx_iload C 6 dX11_part_67 rfl ?_
          refine wx_iand C dX11_part_69 ?_
          refine wx_iload C 6 dX11_part_70 rfl ?_
          refine wx_ineg C dX11_part_72 ?_
          refine wx_iand C dX11_part_73 ?_
          refine wx_if_eq C 91 dX11_part_74 (by decide) (fun c74 => ?_) (fun c74 => ?_)
          · refine wx_iinc C (v := (nI (i + 1))) 3 [1, 2, 3, 0, 4, 5, 6] [(0, .ref (X.1.1 + 149)), (1, .int (nI p)), (2, .int (nI (mp (mS M r l) (2 ^ l - 1) i))), (3, .int (nI (i + 1))), (4, .int (nI (pop8 i))), (5, .int (nI (pop8 (mp (mS M r l) (2 ^ l - 1) i)))), (6, .int df)] dX11_part_91 rfl (nI_1 _) (by decide) rfl ?_
            refine wx_goto C 23 dX11_part_94 (by decide) ?_
            have hz : mp (mS M r l) (2 ^ l - 1) (i + 1) = (mp (mS M r l) (2 ^ l - 1) i) := by
              rw [mp, if_neg]
              rw [Bool.and_eq_true]
              rintro ⟨z1, z2⟩
              first
              | exact btr_3 c56 z1
              | exact hb4 c74 z1
              | (have hc := bI_0.mp c83; exact absurd z2 (Bool.eq_false_iff.mp hc))
            refine wx_sub [0, 1, 2, 3] rfl ?_
            have q := ih (i + 1) (by omega) (by omega) _ hN
            rw [hz] at q
            exact q
          · refine wx_aload_n C 0 dX11_part_77 rfl rfl ?_
            refine wx_iload_n C 1 dX11_part_78 rfl rfl ?_
            refine wx_iload_n C 3 dX11_part_79 rfl rfl ?_
            refine ca_X11_226 C (rest := []) (t_X11_isSoundWithout X.1 N L (p := p) (m := i) rfl hp12 rfl (by omega) hrN (hN.g hg)) (by decide) rfl (by decide) rfl rfl (Nat.le_of_ble_eq_true rfl) dX11_part_80 (kI fun r80 N80 L80 q80 => ?_)
            obtain ⟨rfl, rfl, fr⟩ := q80
            rw [hN.eS]
            refine wx_if_ne C 89 dX11_part_83 (by decide) (fun c83 => ?_) (fun c83 => ?_)
            · refine wx_iload_n C 3 dX11_part_89 rfl rfl ?_
              refine wx_istore_n C [1, 2, 0, 3, 4, 5, 6] [(0, .ref (X.1.1 + 149)), (1, .int (nI p)), (2, .int (nI i)), (3, .int (nI i)), (4, .int (nI (pop8 i))), (5, .int (nI (pop8 (mp (mS M r l) (2 ^ l - 1) i)))), (6, .int df)] dX11_part_90 rfl (by decide) rfl ?_
              refine wx_iinc C (v := (nI (i + 1))) 3 [1, 2, 3, 0, 4, 5, 6] [(0, .ref (X.1.1 + 149)), (1, .int (nI p)), (2, .int (nI i)), (3, .int (nI (i + 1))), (4, .int (nI (pop8 i))), (5, .int (nI (pop8 (mp (mS M r l) (2 ^ l - 1) i)))), (6, .int df)] dX11_part_91 rfl (nI_1 _) (by decide) rfl ?_
              refine wx_goto C 23 dX11_part_94 (by decide) ?_
              have hz : mp (mS M r l) (2 ^ l - 1) (i + 1) = i := by
                rw [mp, if_pos]
                rw [Bool.and_eq_true]
                refine ⟨?_, bI_n0.mp c83⟩
                first
                | exact hb1 c63
                | exact hb2 c74
              refine wx_sub [0, 1, 2, 3] rfl ?_
              have q := ih (i + 1) (by omega) (by omega) _ (hN.trans fr)
              rw [hz] at q
              exact q
            · refine wx_goto C 91 dX11_part_86 (by decide) ?_
              refine wx_iinc C (v := (nI (i + 1))) 3 [1, 2, 3, 0, 4, 5, 6] [(0, .ref (X.1.1 + 149)), (1, .int (nI p)), (2, .int (nI (mp (mS M r l) (2 ^ l - 1) i))), (3, .int (nI (i + 1))), (4, .int (nI (pop8 i))), (5, .int (nI (pop8 (mp (mS M r l) (2 ^ l - 1) i)))), (6, .int df)] dX11_part_91 rfl (nI_1 _) (by decide) rfl ?_
              refine wx_goto C 23 dX11_part_94 (by decide) ?_
              have hz : mp (mS M r l) (2 ^ l - 1) (i + 1) = (mp (mS M r l) (2 ^ l - 1) i) := by
                rw [mp, if_neg]
                rw [Bool.and_eq_true]
                rintro ⟨z1, z2⟩
                first
                | exact btr_3 c56 z1
                | exact hb4 c74 z1
                | (have hc := bI_0.mp c83; exact absurd z2 (Bool.eq_false_iff.mp hc))
              refine wx_sub [0, 1, 2, 3] rfl ?_
              have q := ih (i + 1) (by omega) (by omega) _ (hN.trans fr)
              rw [hz] at q
              exact q
set_option maxHeartbeats 4000000 in
set_option maxRecDepth 100000 in
theorem lp_X11_part2 {X : g_X} {Qr : Option Value → g_M → g_L → Prop} (C : Cx X cX11_part 7 RX11 (some .int) 5) (hQ : Rx X Qr) {M : g_M} {L : g_L} {p l m : Nat} (hp12 : p < 12) (hm : m < 256) (h8 : l ≤ 8) (hl : M 156 p = nI l) (K : wx X (cpM M p (swQ m) l) L 168 [(0, .ref (X.1.1 + 149)), (1, .int (nI p)), (2, .int (nI m)), (3, .int (nI (kS (swQ m) l).1))] []) : ∀ (n i : Nat), i ≤ l → l < i + n → wx X (cpM M p (swQ m) i) L 112 [(0, .ref (X.1.1 + 149)), (1, .int (nI p)), (2, .int (nI m)), (3, .int (nI (kS (swQ m) i).1)), (4, .int (nI i))] [] := by
  intro n
  induction n with
  | zero =>
    intro i h1 h2
    exact absurd h2 (by omega)
  | succ n ih =>
    intro i hi0 hin
    have h156 : cpM M p (swQ m) i 156 p = nI l := by rw [cpM_o _ _ _ _ _ (by decide)]; exact hl
    have hkl := kS_le (swQ m) i
    refine wx_iload C 4 dX11_part_112 rfl ?_
    refine wx_aload_n C 0 dX11_part_114 rfl rfl ?_
    refine gf_X11_38 C dX11_part_115 ?_
    refine wx_iload_n C 1 dX11_part_118 rfl rfl ?_
    refine wx_iald C 156 p (by decide) (fun _ _ => rfl) (by decide) dX11_part_119 rfl (by omega) ?_
    refine wx_icmp_ge C 168 dX11_part_120 (by decide) (fun c120 => ?_) (fun c120 => ?_)
    · have hib : i = l := by
        rw [h156] at c120
        exact Nat.le_antisymm hi0 ((nI_leI (by omega) (by omega)).mp c120)
      rw [hib]
      exact wx_sub [0, 1, 2, 3] rfl K
    · have hi : i < l := by
        rw [h156] at c120
        exact Nat.lt_of_not_le (fun h => c120 ((nI_leI (by omega) (by omega)).mpr h))
      have hbit := sw_bit m hm i (by omega)
      refine wx_iload_n C 2 dX11_part_123 rfl rfl ?_
      refine wx_iload C 4 dX11_part_124 rfl ?_
      refine wx_ishr C dX11_part_126 ?_
      refine wx_iconst C 1 dX11_part_127 (by decide) ?_
      refine wx_iand C dX11_part_128 ?_
      refine wx_iconst C 1 dX11_part_129 (by decide) ?_
      refine wx_icmp_ne C 136 dX11_part_130 (by decide) (fun c130 => ?_) (fun c130 => ?_)
      · have hQi : swQ m i = true := by
          refine decide_eq_true ?_
          rw [hbit] at c130 ⊢
          have hz : m / 2 ^ i % 2 = 0 ∨ m / 2 ^ i % 2 = 1 := by omega
          rcases hz with hz | hz
          · rw [hz]; rfl
          · exact absurd (by rw [hz]; rfl) c130
        have h157 : cpM M p (swQ m) i 157 (8 * p + i) = M 157 (8 * p + i) := by
          unfold cpM
          by_cases hz : 8 * p + i < 8 * p + (kS (swQ m) i).1
          · exact absurd hz (by omega)
          · rw [if_neg (fun y => hz y.2.2)]
        refine wx_aload_n C 0 dX11_part_136 rfl rfl ?_
        refine gf_X11_41 C dX11_part_137 ?_
        refine wx_bipush C 8 dX11_part_140 (by decide) ?_
        refine wx_iload_n C 1 dX11_part_142 rfl rfl ?_
        refine wx_imul C dX11_part_143 ?_
        refine wx_iload_n C 3 dX11_part_144 rfl rfl ?_
        refine wx_iadd C dX11_part_145 ?_
        refine wx_aload_n C 0 dX11_part_146 rfl rfl ?_
        refine gf_X11_41 C dX11_part_147 ?_
        refine wx_bipush C 8 dX11_part_150 (by decide) ?_
        refine wx_iload_n C 1 dX11_part_152 rfl rfl ?_
        refine wx_imul C dX11_part_153 ?_
        refine wx_iload C 4 dX11_part_154 rfl ?_
        refine wx_iadd C dX11_part_156 ?_
        refine wx_iald C 157 (8 * p + i) (by decide) (fun _ _ => rfl) (by decide) dX11_part_157 (by rw [show (8 : Int32) = nI 8 from rfl, pk_mul, nI_add]) (by omega) ?_
        refine wx_iast C 157 (8 * p + (kS (swQ m) i).1) (by decide) (fun _ _ => rfl) (by decide) dX11_part_158 (by rw [show (8 : Int32) = nI 8 from rfl, pk_mul, nI_add]) (by omega) ?_
        refine wx_iinc C (v := (nI (kS (swQ m) i).1 + 1)) 3 [1, 2, 3, 0, 4] [(0, .ref (X.1.1 + 149)), (1, .int (nI p)), (2, .int (nI m)), (3, .int (nI (kS (swQ m) i).1 + 1)), (4, .int (nI i))] dX11_part_159 rfl rfl (by decide) rfl ?_
        refine wx_iinc C (v := (nI (i + 1))) 4 [1, 2, 3, 4, 0] [(0, .ref (X.1.1 + 149)), (1, .int (nI p)), (2, .int (nI m)), (3, .int (nI (kS (swQ m) i).1 + 1)), (4, .int (nI (i + 1)))] dX11_part_162 rfl (nI_1 _) (by decide) rfl ?_
        refine wx_goto C 112 dX11_part_165 (by decide) ?_
        have e1 : (kS (swQ m) (i + 1)).1 = (kS (swQ m) i).1 + 1 := by rw [kS, if_pos hQi]
        have q := ih (i + 1) (by omega) (by omega)
        rw [e1] at q
        rw [h157, cpM_1 M p (swQ m) i hQi, nI_1]
        exact q
      · refine wx_goto C 162 dX11_part_133 (by decide) ?_
        refine wx_iinc C (v := (nI (i + 1))) 4 [1, 2, 3, 4, 0] [(0, .ref (X.1.1 + 149)), (1, .int (nI p)), (2, .int (nI m)), (3, .int (nI (kS (swQ m) i).1)), (4, .int (nI (i + 1)))] dX11_part_162 rfl (nI_1 _) (by decide) rfl ?_
        refine wx_goto C 112 dX11_part_165 (by decide) ?_
        have hQi : swQ m i = false := by
          refine decide_eq_false ?_
          rw [c130]
          decide
        have e1 : (kS (swQ m) (i + 1)).1 = (kS (swQ m) i).1 := by rw [kS, if_neg (by rw [hQi]; decide)]
        have q := ih (i + 1) (by omega) (by omega)
        rw [e1] at q
        rw [cpM_2 M p (swQ m) i hQi]
        exact q
theorem mKP_n (N : g_M) (fa ac : Nat) : mKP N fa ac 149 0 = N 149 0 := by
  unfold mKP kpM
  rw [kq_o _ _ _ _ _ (by decide), g_st_ap, if_neg (by omega), g_st_ap, if_neg (by decide), g_st_ap, if_neg (by decide)]
theorem mKP_e (N : g_M) (fa ac : Nat) : mKP N fa ac 149 1 = N 149 1 := by
  unfold mKP kpM
  rw [kq_o _ _ _ _ _ (by decide), g_st_ap, if_neg (by omega), g_st_ap, if_neg (by decide), g_st_ap, if_neg (by decide)]
theorem pt_rw {K : g_M} {p l m : Nat} {sz : Nat → Nat} {rr : Nat → Nat → Nat} (hp12 : p < 12) (hl : l = sz p) (hr : ∀ q, q < 12 → mrw K q (sz q) (rr q)) : ∀ q, q < 12 → mrw (g_st (cpM K p (swQ m) l) 156 p (nI (kS (swQ m) l).1)) q (if q = p then (kS (swQ m) l).1 else sz q) (if q = p then fun j => rr p ((kS (swQ m) l).2 j) else rr q) := by
  intro q hq
  obtain ⟨h1, h2, h3⟩ := hr q hq
  have hkl := kS_le (swQ m) l
  by_cases hqp : q = p
  · subst hqp
    rw [if_pos rfl, if_pos rfl]
    refine ⟨by rw [g_st_ap, if_pos ⟨rfl, rfl⟩], by omega, fun i hi => ?_⟩
    rw [g_st_ap, if_neg (by omega)]
    unfold cpM
    rw [if_pos ⟨rfl, by omega, by omega⟩, Nat.add_sub_cancel_left]
    exact h3 _ (by have := kS_lt (swQ m) l i hi; omega)
  · rw [if_neg hqp, if_neg hqp]
    refine ⟨by rw [g_st_ap, if_neg (by omega), cpM_o _ _ _ _ _ (by decide)]; exact h1, h2, fun i hi => ?_⟩
    rw [g_st_ap, if_neg (by omega)]
    unfold cpM
    rw [if_neg (by have := (hr p hp12).2.1; omega)]
    exact h3 i hi
set_option maxHeartbeats 4000000 in
set_option maxRecDepth 100000 in
theorem t_X11_part (G : g_G) (M : g_M) (L : g_L) (x : Int32) {n e fa ac : Nat} {sz : Nat → Nat} {rr : Nat → Nat → Nat} {go : Nat → Bool} (hM : mI M n e fa ac sz rr go) : mt G yX11_part (Cond.code yX11_part cX11_part 7 (some .int)) 5 [.ref (G.1 + 149), .int x] M L (qI fun v M' L' => L = L' ∧ ((mHas M e x = false ∧ v = -1 ∧ frM M M') ∨ ∃ p, p < e ∧ x = nI p ∧ M 158 p = 0 ∧ (((mpB M (rr p) (sz p)) = 0 ∧ v = 0 ∧ frM M M') ∨ (¬ (mpB M (rr p) (sz p)) = 0 ∧ v = nI (pop8 (mpB M (rr p) (sz p))) ∧ ∃ N, frM M N ∧ M' = ptM N n e fa ac p (sz p) (mpB M (rr p) (sz p)) sz rr)))) := by
  refine mt_of (by decide) rfl (Nat.le_of_ble_eq_true rfl) [(0, .ref (G.1 + 149)), (1, .int x)] rfl (fun X hG C hQ => ?_)
  subst hG
  refine wx_aload_n C 0 dX11_part_0 rfl rfl ?_
  refine wx_iload_n C 1 dX11_part_1 rfl rfl ?_
  refine ca_X11_185 C (rest := []) (t_X11_isPath X.1 M L x hM.he hM.e12) (by decide) rfl (by decide) rfl rfl (Nat.le_of_ble_eq_true rfl) dX11_part_2 (kI fun r2 M2 L2 q2 => ?_)
  obtain ⟨rfl, rfl, rfl⟩ := q2
  refine wx_if_ne C 10 dX11_part_5 (by decide) (fun c5 => ?_) (fun c5 => ?_)
  · obtain ⟨p, hp, rfl, hg0⟩ := mHas_t hM.e12 (bI_n0.mp c5)
    have hp12 : p < 12 := by have := hM.e12; omega
    have hr := hM.r hp12
    have h8 := hr.2.1
    have hpw := pow_l (sz p) (by omega)
    have hB : (mpB M (rr p) (sz p)) < 256 := by
      have h := mp_lt (T := mS M (rr p) (sz p)) (b := 2 ^ sz p - 1) (u := 2 ^ sz p) (by omega) (Nat.le_refl _)
      exact Nat.lt_of_lt_of_le h hpw.2.2.1
    refine wx_iconst C 1 dX11_part_10 (by decide) ?_
    refine wx_aload_n C 0 dX11_part_11 rfl rfl ?_
    refine gf_X11_38 C dX11_part_12 ?_
    refine wx_iload_n C 1 dX11_part_15 rfl rfl ?_
    refine wx_iald C 156 p (by decide) (fun _ _ => rfl) (by decide) dX11_part_16 rfl hp12 ?_
    refine wx_ishl C dX11_part_17 ?_
    refine wx_iconst C 1 dX11_part_18 (by decide) ?_
    refine wx_isub C dX11_part_19 ?_
    refine wx_istore_n C [1, 2, 0] [(0, .ref (X.1.1 + 149)), (1, .int (nI p)), (2, .int ((1 <<< ((M 156 p) &&& 31)) - 1))] dX11_part_20 rfl (by decide) rfl ?_
    refine wx_iconst C 0 dX11_part_21 (by decide) ?_
    refine wx_istore_n C [1, 2, 3, 0] [(0, .ref (X.1.1 + 149)), (1, .int (nI p)), (2, .int ((1 <<< ((M 156 p) &&& 31)) - 1)), (3, .int 0)] dX11_part_22 rfl (by decide) rfl ?_
    rw [hr.1, hpw.1, hpw.2.1]
    refine lp_X11_part C hQ hp12 hr hM.g (fun N hN => ?_) (2 ^ sz p + 1) 0 (by omega) (by omega) M (frM.rf M)
    have hMN := hM.fr hN
    refine wx_iload_n C 2 dX11_part_97 rfl rfl ?_
    refine wx_if_ne C 103 dX11_part_98 (by decide) (fun c98 => ?_) (fun c98 => ?_)
    · refine wx_aload_n C 0 dX11_part_103 rfl rfl ?_
      refine ca_X11_175 C (rest := []) (t_X11_keep X.1 N L hMN.hfa hMN.fa30 hMN.hac hMN.ac30 (fun p => hMN.hgo)) (by decide) rfl (by decide) rfl rfl (Nat.le_of_ble_eq_true rfl) dX11_part_104 (kV fun M104 L104 q104 => ?_)
      obtain ⟨rfl, rfl⟩ := q104
      change wx X (mKP N fa ac) L _ _ _
      refine wx_iconst C 0 dX11_part_107 (by decide) ?_
      refine wx_istore_n C [1, 2, 3, 0] [(0, .ref (X.1.1 + 149)), (1, .int (nI p)), (2, .int (nI (mpB M (rr p) (sz p)))), (3, .int 0)] dX11_part_108 rfl (by decide) rfl ?_
      refine wx_iconst C 0 dX11_part_109 (by decide) ?_
      refine wx_istore C [1, 2, 3, 4, 0] [(0, .ref (X.1.1 + 149)), (1, .int (nI p)), (2, .int (nI (mpB M (rr p) (sz p)))), (3, .int 0), (4, .int 0)] dX11_part_110 (by decide) rfl ?_
      rw [← cpM_0 (mKP N fa ac) p (swQ (mpB M (rr p) (sz p)))]
      refine lp_X11_part2 (M := mKP N fa ac) C hQ hp12 hB (l := sz p) h8 (by rw [mKP_o _ _ _ _ (by decide) (by decide)]; exact (hMN.r hp12).1) ?_ (sz p + 1) 0 (by omega) (by omega)
      have hrw := pt_rw (K := mKP N fa ac) (m := (mpB M (rr p) (sz p))) (l := sz p) hp12 rfl (fun q hq => by
        obtain ⟨z1, z2, z3⟩ := hMN.r hq
        refine ⟨by rw [mKP_o _ _ _ _ (by decide) (by decide)]; exact z1, z2, fun i hi => ?_⟩
        rw [mKP_o _ _ _ _ (by decide) (by decide)]
        exact z3 i hi)
      have hrw := fun q (hq : q < e) => hrw q (by have := hM.e12; omega)
      have eo : ∀ a b, a ≠ 156 → a ≠ 157 → g_st (cpM (mKP N fa ac) p (swQ (mpB M (rr p) (sz p))) (sz p)) 156 p (nI (kS (swQ (mpB M (rr p) (sz p))) (sz p)).1) a b = mKP N fa ac a b := fun a b y1 y2 => by rw [g_st_ap, if_neg (by omega), cpM_o _ _ _ _ _ y2]
      refine wx_aload_n C 0 dX11_part_168 rfl rfl ?_
      refine gf_X11_38 C dX11_part_169 ?_
      refine wx_iload_n C 1 dX11_part_172 rfl rfl ?_
      refine wx_iload_n C 3 dX11_part_173 rfl rfl ?_
      refine wx_iast C 156 p (by decide) (fun _ _ => rfl) (by decide) dX11_part_174 rfl hp12 ?_
      refine wx_aload_n C 0 dX11_part_175 rfl rfl ?_
      refine ca_X11_172 C (rest := []) (t_X11_own X.1 (g_st (cpM (mKP N fa ac) p (swQ (mpB M (rr p) (sz p))) (sz p)) 156 p (nI (kS (swQ (mpB M (rr p) (sz p))) (sz p)).1)) L (n := n) (e := e) (sz := (fun q => if q = p then (kS (swQ (mpB M (rr p) (sz p))) (sz p)).1 else sz q)) (rr := (fun q => if q = p then fun j => rr p ((kS (swQ (mpB M (rr p) (sz p))) (sz p)).2 j) else rr q)) (by rw [eo 149 0 (by decide) (by decide)]; exact (mKP_n N fa ac).trans hMN.hn) hMN.n60 (by rw [eo 149 1 (by decide) (by decide)]; exact (mKP_e N fa ac).trans hMN.he) hMN.e12 hrw) (by decide) rfl (by decide) rfl rfl (Nat.le_of_ble_eq_true rfl) dX11_part_176 (kV fun M176 L176 q176 => ?_)
      obtain ⟨rfl, rfl⟩ := q176
      refine wx_iload_n C 2 dX11_part_179 rfl rfl ?_
      refine ca_X11_223 C (rest := []) (t_X11_bitsOf X.1 _ L (m := (mpB M (rr p) (sz p))) rfl hB) (by decide) rfl rfl (Nat.le_of_ble_eq_true rfl) dX11_part_180 (kI fun r180 M180 L180 q180 => ?_)
      obtain ⟨rfl, rfl, rfl⟩ := q180
      refine wx_iret C hQ dX11_part_183 ?_
      exact ⟨_, rfl, rfl, Or.inr ⟨p, hp, rfl, hg0, Or.inr ⟨fun z => c98 (by rw [z]; rfl), rfl, N, hN, rfl⟩⟩⟩
    · refine wx_iconst C 0 dX11_part_101 (by decide) ?_
      refine wx_iret C hQ dX11_part_102 ?_
      exact ⟨_, rfl, rfl, Or.inr ⟨p, hp, rfl, hg0, Or.inl ⟨nI_inj (by omega) (by decide) c98, rfl, hN⟩⟩⟩
  · refine wx_iconst C (-1) dX11_part_8 (by decide) ?_
    refine wx_iret C hQ dX11_part_9 ?_
    exact ⟨_, rfl, rfl, Or.inl ⟨bI_0.mp c5, rfl, frM.rf M⟩⟩
