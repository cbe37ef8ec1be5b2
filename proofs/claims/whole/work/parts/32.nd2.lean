/-! ===== NightDots: parting, changeRow and what is built on it ===== -/
def frG (M N : g_M) : Prop := ∀ a b, ¬ (a = 7 ∧ (b = 3 ∨ b = 4)) → ¬ (a = 147 ∧ b = 1) → a ≠ 148 → N a b = M a b
theorem frG.rf (M : g_M) : frG M M := fun _ _ _ _ _ => rfl
theorem frG.trans {M N K : g_M} (h : frG M N) (h2 : frG N K) : frG M K := fun a b x y z => (h2 a b x y z).trans (h a b x y z)
theorem frG.o {M N : g_M} (h : frG M N) (a : Nat) (h1 : a ≠ 7) (h2 : a ≠ 147) (h3 : a ≠ 148) : N a = M a := by
  funext b
  exact h a b (by omega) (by omega) h3
theorem frG.eP {M N : g_M} (h : frG M N) (ax : Int32) (r : Nat → Nat) (l : Nat) : cLp N ax r l = cLp M ax r l := by
  show (N 2, plc (N 3) (N 4) ax, N 7 2, N 7 1, r, l) = (M 2, plc (M 3) (M 4) ax, M 7 2, M 7 1, r, l)
  rw [h.o 2 (by decide) (by decide) (by decide), h.o 3 (by decide) (by decide) (by decide), h.o 4 (by decide) (by decide) (by decide), h 7 2 (by decide) (by decide) (by decide), h 7 1 (by decide) (by decide) (by decide)]
theorem frG.eS {M N : g_M} (h : frG M N) : snd N = snd M := by
  funext r l
  show (anyS (cLp N 0 r l) 41 && anyS (cLp N 1 r l) 41) = (anyS (cLp M 0 r l) 41 && anyS (cLp M 1 r l) 41)
  rw [h.eP, h.eP]
theorem frG_sr (M : g_M) (l : Nat) (f : Nat → Int32) : frG M (g_sr M 147 l f) := fun a b _ y z => by
  unfold g_sr
  rw [if_neg y, if_neg (by omega)]
theorem frG_nt (M : g_M) (x y : Int32) : frG M (nt M x y) := fun a b u _ _ => by
  rw [nt_ap, if_neg (by omega), if_neg (by omega)]
theorem rok.cg {M N : g_M} {k l : Nat} {r : Nat → Nat} (h : rok M k l r) (h1 : N k = M k) (h2 : N (k + 1) = M (k + 1)) : rok N k l r := by
  obtain ⟨a, b, c, d⟩ := h
  exact ⟨a, by rw [h1]; exact b, c, fun i hi => by rw [h2]; exact d i hi⟩
theorem g_row_147 {k : Nat} (h : g_row k) (h1 : k ≠ 147) : k ≠ 7 ∧ k + 1 ≠ 7 ∧ k ≠ 148 ∧ k + 1 ≠ 147 ∧ k + 1 ≠ 148 := by
  rcases h with rfl | rfl | ⟨p, hp, rfl⟩ | ⟨i, hi, rfl⟩ <;> omega
theorem rok.fG {M N : g_M} {k l : Nat} {r : Nat → Nat} (h : rok M k l r) (hG : frG M N) (h1 : k ≠ 147) : rok N k l r := by
  obtain ⟨a, b, c, d, e⟩ := g_row_147 h.1 h1
  exact h.cg (hG.o _ a h1 c) (hG.o _ b d e)
/-- the group holds what stays -/
theorem rok_ks {M : g_M} {k l : Nat} {r : Nat → Nat} (h : rok M k l r) (Q : Nat → Bool) : rok (ksM M k Q l) 147 (kS Q l).1 (fun j => r ((kS Q l).2 j)) := by
  refine ⟨rw_147, g_sr_len _ _ _ _, Nat.le_trans (kS_le Q l) h.2.2.1, fun j hj => ?_⟩
  unfold ksM
  rw [g_sr_at M 147 _ _ hj]
  exact h.2.2.2 _ (kS_lt Q l j hj)
def ptS (M : g_M) (r : Nat → Nat) (l m : Nat) : Bool := snd M (fun j => r ((kS (stQ (nI m) l) l).2 j)) (kS (stQ (nI m) l) l).1
def ptL (S : Nat → Bool) : Nat → Nat → Nat
  | 0, b => b
  | n + 1, b => ptL S n (if pop8 n < pop8 b ∧ S n = true then n else b)
theorem pop8_le (n : Nat) : pop8 n ≤ 8 := by
  unfold pop8
  omega
theorem pow_l : ∀ l, l < 9 → ((1 : Int32) <<< (nI l &&& 31)) - 1 = nI (2 ^ l) + (-1) ∧ nI (2 ^ l) + (-1) = nI (2 ^ l - 1) ∧ 2 ^ l ≤ 256 ∧ 1 ≤ 2 ^ l := by decide
set_option maxHeartbeats 4000000 in
set_option maxRecDepth 100000 in
theorem lp_X10_parting {X : g_X} {Qr : Option Value → g_M → g_L → Prop} (C : Cx X cX10_parting 4 RX10 (some .int) 4) (hQ : Rx X Qr) {M : g_M} {L : g_L} {k l : Nat} {r : Nat → Nat} (hk : rok M k l r) (h147 : k ≠ 147) (hg : 1 ≤ (M 7 1).toInt) : ∀ (n b : Nat) (N : g_M), n ≤ 256 → b < 256 → frG M N → (∀ N2, frG M N2 → Qr (some (.int (nI (ptL (ptS M r l) n b)))) N2 L) → wx X N L 11 [(0, .ref (X.1.1 + 0)), (1, .ref (X.1.1 + k)), (2, .int (nI b)), (3, .int (nI n + (-1)))] [] := by
  intro n
  induction n with
  | zero =>
    intro b N hn hb hN hp
    refine wx_iload_n C 3 dX10_parting_11 rfl rfl ?_
    refine wx_if_lt C 54 dX10_parting_12 (by decide) (fun c12 => ?_) (fun c12 => absurd c12 (fun z => z (by decide)))
    refine wx_iload_n C 2 dX10_parting_54 rfl rfl ?_
    refine wx_iret C hQ dX10_parting_55 ?_
    exact hp N hN
  | succ n ih =>
    intro b N hn hb hN hp
    rw [pk_m1]
    have hkN := hk.fG hN h147
    refine wx_iload_n C 3 dX10_parting_11 rfl rfl ?_
    refine wx_if_lt C 54 dX10_parting_12 (by decide) (fun c12 => absurd c12 (nI_pos (by omega))) (fun c12 => ?_)
    refine wx_iload_n C 3 dX10_parting_15 rfl rfl ?_
    refine ca_X10_325 C (rest := []) (t_J6_bitCount_0f7a4 X.1 N L (nI n)) (by decide) rfl rfl (Nat.le_of_ble_eq_true rfl) dX10_parting_16 (kI fun r16 M16 L16 q16 => ?_)
    obtain ⟨rfl, rfl, rfl⟩ := q16
    refine wx_iload_n C 2 dX10_parting_19 rfl rfl ?_
    refine ca_X10_325 C (rest := [.int (bcJ (nI n))]) (t_J6_bitCount_0f7a4 X.1 N L (nI b)) (by decide) rfl rfl (Nat.le_of_ble_eq_true rfl) dX10_parting_20 (kI fun r20 M20 L20 q20 => ?_)
    obtain ⟨rfl, rfl, rfl⟩ := q20
    refine wx_icmp_ge C 48 dX10_parting_23 (by decide) (fun c23 => ?_) (fun c23 => ?_)
    · refine wx_iinc C (v := (nI n + (-1))) 3 [1, 2, 3, 0] [(0, .ref (X.1.1 + 0)), (1, .ref (X.1.1 + k)), (2, .int (nI b)), (3, .int (nI n + (-1)))] dX10_parting_48 rfl rfl (by decide) rfl ?_
      refine wx_goto C 11 dX10_parting_51 (by decide) ?_
      rw [bcJ_n n (by omega), bcJ_n b hb] at c23
      have hle := (nI_leI (by have := pop8_le b; omega) (by have := pop8_le n; omega)).mp c23
      refine ih b _ (by omega) hb hN (fun N2 h2 => ?_)
      have h := hp N2 h2
      rw [ptL, if_neg (fun z => absurd z.1 (by omega))] at h
      exact h
    · refine wx_aload_n C 0 dX10_parting_26 rfl rfl ?_
      refine wx_aload_n C 1 dX10_parting_27 rfl rfl ?_
      refine wx_iload_n C 3 dX10_parting_28 rfl rfl ?_
      refine ca_X10_256 C (rest := []) (t_X10_keepStaying X.1 N L hkN.1 hkN.2.1 hkN.2.2.1 h147 (nI n)) (by decide) rfl (by decide) rfl rfl (Nat.le_of_ble_eq_true rfl) dX10_parting_29 (kV fun M29 L29 q29 => ?_)
      obtain ⟨rfl, rfl⟩ := q29
      have hks := rok_ks hkN (stQ (nI n) l)
      have hN3 : frG M (ksM N k (stQ (nI n) l) l) := hN.trans (frG_sr _ _ _)
      have hg3 : 1 ≤ ((ksM N k (stQ (nI n) l) l) 7 1).toInt := by rw [hN3 7 1 (by decide) (by decide) (by decide)]; exact hg
      refine wx_aload_n C 0 dX10_parting_32 rfl rfl ?_
      refine gf_X10_23 C dX10_parting_33 ?_
      refine wx_aload_n C 0 dX10_parting_36 rfl rfl ?_
      refine gf_X10_67 C dX10_parting_37 ?_
      refine ca_X10_162 C (rest := []) (t_X4_isSound X.1 (ksM N k (stQ (nI n) l) l) L hks hg3) (by decide) rfl (by decide) rfl rfl (Nat.le_of_ble_eq_true rfl) dX10_parting_40 (kI fun r40 M40 L40 q40 => ?_)
      obtain ⟨rfl, rfl, a40, b40, rfl⟩ := q40
      have hN4 : frG M (nt (ksM N k (stQ (nI n) l) l) a40 b40) := hN3.trans (frG_nt _ _ _)
      have hS : ptS M r l n = snd (ksM N k (stQ (nI n) l) l) (fun j => r ((kS (stQ (nI n) l) l).2 j)) (kS (stQ (nI n) l) l).1 := by rw [hN3.eS]; rfl
      refine wx_if_eq C 48 dX10_parting_43 (by decide) (fun c43 => ?_) (fun c43 => ?_)
      · refine wx_iinc C (v := (nI n + (-1))) 3 [1, 2, 3, 0] [(0, .ref (X.1.1 + 0)), (1, .ref (X.1.1 + k)), (2, .int (nI b)), (3, .int (nI n + (-1)))] dX10_parting_48 rfl rfl (by decide) rfl ?_
        refine wx_goto C 11 dX10_parting_51 (by decide) ?_
        rw [bcJ_n n (by omega), bcJ_n b hb] at c23
        have hlt : pop8 n < pop8 b := Nat.lt_of_not_le (fun z => c23 ((nI_leI (by have := pop8_le b; omega) (by have := pop8_le n; omega)).mpr z))
        refine ih b _ (by omega) hb hN4 (fun N2 h2 => ?_)
        have h := hp N2 h2
        rw [ptL, if_neg (fun z => by rw [hS, bI_0.mp c43] at z; cases z.2)] at h
        exact h
      · refine wx_iload_n C 3 dX10_parting_46 rfl rfl ?_
        refine wx_istore_n C [1, 2, 0, 3] [(0, .ref (X.1.1 + 0)), (1, .ref (X.1.1 + k)), (2, .int (nI n)), (3, .int (nI n))] dX10_parting_47 rfl (by decide) rfl ?_
        refine wx_iinc C (v := (nI n + (-1))) 3 [1, 2, 3, 0] [(0, .ref (X.1.1 + 0)), (1, .ref (X.1.1 + k)), (2, .int (nI n)), (3, .int (nI n + (-1)))] dX10_parting_48 rfl rfl (by decide) rfl ?_
        refine wx_goto C 11 dX10_parting_51 (by decide) ?_
        rw [bcJ_n n (by omega), bcJ_n b hb] at c23
        have hlt : pop8 n < pop8 b := Nat.lt_of_not_le (fun z => c23 ((nI_leI (by have := pop8_le b; omega) (by have := pop8_le n; omega)).mpr z))
        refine ih n _ (by omega) (by omega) hN4 (fun N2 h2 => ?_)
        have h := hp N2 h2
        rw [ptL, if_pos ⟨hlt, by rw [hS]; exact bI_n0.mp c43⟩] at h
        exact h
set_option maxHeartbeats 4000000 in
set_option maxRecDepth 100000 in
theorem t_X10_parting (G : g_G) (M : g_M) (L : g_L) {k l : Nat} {r : Nat → Nat} (hk : rok M k l r) (h8 : l ≤ 8) (h147 : k ≠ 147) (hg : 1 ≤ (M 7 1).toInt) : mt G yX10_parting (Cond.code yX10_parting cX10_parting 4 (some .int)) 4 [.ref (G.1 + 0), .ref (G.1 + k)] M L (qI fun v M' L' => L = L' ∧ frG M M' ∧ v = nI (ptL (ptS M r l) (2 ^ l) (2 ^ l - 1))) := by
  refine mt_of (by decide) rfl (Nat.le_of_ble_eq_true rfl) [(0, .ref (G.1 + 0)), (1, .ref (G.1 + k))] rfl (fun X hG C hQ => ?_)
  subst hG
  refine wx_iconst C 1 dX10_parting_0 (by decide) ?_
  refine wx_aload_n C 1 dX10_parting_1 rfl rfl ?_
  refine gf_X10_183 C hk.1 dX10_parting_2 ?_
  refine wx_ishl C dX10_parting_5 ?_
  refine wx_iconst C 1 dX10_parting_6 (by decide) ?_
  refine wx_isub C dX10_parting_7 ?_
  refine wx_istore_n C [1, 2, 0] [(0, .ref (X.1.1 + 0)), (1, .ref (X.1.1 + k)), (2, .int ((1 <<< ((M k 1) &&& 31)) - 1))] dX10_parting_8 rfl (by decide) rfl ?_
  refine wx_iload_n C 2 dX10_parting_9 rfl rfl ?_
  refine wx_istore_n C [1, 2, 3, 0] [(0, .ref (X.1.1 + 0)), (1, .ref (X.1.1 + k)), (2, .int ((1 <<< ((M k 1) &&& 31)) - 1)), (3, .int ((1 <<< ((M k 1) &&& 31)) - 1))] dX10_parting_10 rfl (by decide) rfl ?_
  obtain ⟨e1, e2, e3, e4⟩ := pow_l l (by omega)
  have h := lp_X10_parting C hQ hk h147 hg (2 ^ l) (2 ^ l - 1) M e3 (by omega) (frG.rf M) (fun N2 h2 => ⟨_, rfl, rfl, h2, rfl⟩)
  rw [← e2, ← e1, ← hk.2.1] at h
  exact h
/-! changeRow -/
theorem actK_o (M : g_M) {nx kp l : Nat} {x : Int32} {f : Nat → Int32} {a : Nat} (h1 : a ≠ 54) (h2 : a ≠ 56 + 3 * nx) (h3 : a ≠ 57 + 3 * nx) (h4 : a ≠ 58 + 3 * nx) : actK M nx kp x l f a = M a := by
  funext b
  unfold actK actF
  rw [g_st_ap, if_neg (by omega), g_st_ap, if_neg (by omega), g_sr_out _ _ _ _ _ (by omega) (by omega), g_st_ap, if_neg (by omega), g_st_ap, if_neg (by omega), g_st_ap, if_neg (by omega)]
def chg (M : g_M) (p nx kp l l2 : Nat) (r r2 : Nat → Nat) : g_M := g_st (rpl (actK M nx kp (nI p) l (M (20 + 3 * p))) p l l2 r r2 (M 148)) 9 10 0
/-- the acts' own numbers -/
def acO (M : g_M) (nx kp : Nat) : Prop := M 54 1 = nI nx ∧ nx < 30 ∧ M 54 2 = nI kp ∧ kp ≤ 30
set_option maxHeartbeats 4000000 in
set_option maxRecDepth 100000 in
theorem t_X10_changeRow (G : g_G) (M : g_M) (L : g_L) {x : Int32} {p nx kp l l2 : Nat} {r r2 : Nat → Nat} (hx : x = nI p) (hp : p < 12) (hA : acO M nx kp) (h1 : rok M (19 + 3 * p) l r) (h2 : rok M 147 l2 r2) : mt G yX10_changeRow (Cond.code yX10_changeRow cX10_changeRow 3 (some (.object "NightDots$Act"))) 4 [.ref (G.1 + 0), .int x] M L (qR G.1 fun k M' L' => L = L' ∧ k = 56 + 3 * nx ∧ M' = chg M p nx kp l l2 r r2) := by
  refine mt_of (by decide) rfl (Nat.le_of_ble_eq_true rfl) [(0, .ref (G.1 + 0)), (1, .int x)] rfl (fun X hG C hQ => ?_)
  subst hG
  obtain ⟨hn, hnx, hk, hkp⟩ := hA
  refine wx_aload_n C 0 dX10_changeRow_0 rfl rfl ?_
  refine gf_X10_53 C dX10_changeRow_1 ?_
  refine wx_iload_n C 1 dX10_changeRow_4 rfl rfl ?_
  refine wx_aload_n C 0 dX10_changeRow_5 rfl rfl ?_
  refine gf_X10_46 C dX10_changeRow_6 ?_
  refine gf_X10_167 C dX10_changeRow_9 ?_
  refine wx_iload_n C 1 dX10_changeRow_12 rfl rfl ?_
  refine wx_aaldW C p dX10_changeRow_13 hx hp ?_
  refine gf_X10_171 C hp dX10_changeRow_14 ?_
  refine ca_X10_314 C (rest := []) (t_X1_keep X.1 M L (x := x) hn hnx hk hkp h1.1 h1.2.1 h1.2.2.1 (by omega)) (by decide) rfl (by decide) rfl rfl (Nat.le_of_ble_eq_true rfl) dX10_changeRow_17 (kR fun r17 M17 L17 q17 => ?_)
  obtain ⟨rfl, rfl, rfl⟩ := q17
  have g1 : rok (actK M nx kp x l (M (19 + 3 * p + 1))) (19 + 3 * p) l r := h1.cg (actK_o M (by omega) (by omega) (by omega) (by omega)) (actK_o M (by omega) (by omega) (by omega) (by omega))
  have g2 : rok (actK M nx kp x l (M (19 + 3 * p + 1))) 147 l2 r2 := h2.cg (actK_o M (by omega) (by omega) (by omega) (by omega)) (actK_o M (by omega) (by omega) (by omega) (by omega))
  refine wx_astore_n C [1, 2, 0] [(0, .ref (X.1.1 + 0)), (1, .int x), (2, .ref (X.1.1 + (56 + 3 * nx)))] dX10_changeRow_20 rfl (by decide) rfl ?_
  refine wx_aload_n C 0 dX10_changeRow_21 rfl rfl ?_
  refine gf_X10_46 C dX10_changeRow_22 ?_
  refine wx_iload_n C 1 dX10_changeRow_25 rfl rfl ?_
  refine wx_aload_n C 0 dX10_changeRow_26 rfl rfl ?_
  refine gf_X10_67 C dX10_changeRow_27 ?_
  refine ca_X10_290 C (rest := []) (t_X9_replaceRow X.1 (actK M nx kp x l (M (19 + 3 * p + 1))) L hx hp g1 g2 (by omega)) (by decide) rfl (by decide) rfl rfl (Nat.le_of_ble_eq_true rfl) dX10_changeRow_30 (kV fun M30 L30 q30 => ?_)
  obtain ⟨rfl, rfl⟩ := q30
  refine wx_aload_n C 0 dX10_changeRow_33 rfl rfl ?_
  refine gf_X10_39 C dX10_changeRow_34 ?_
  refine ca_X10_86 C (rest := []) (t_X5_forget X.1 (rpl (actK M nx kp x l (M (19 + 3 * p + 1))) p l l2 r r2 (actK M nx kp x l (M (19 + 3 * p + 1)) (147 + 1))) L) (by decide) rfl (by decide) rfl rfl (Nat.le_of_ble_eq_true rfl) dX10_changeRow_37 (kV fun M37 L37 q37 => ?_)
  obtain ⟨rfl, rfl⟩ := q37
  refine wx_aload_n C 2 dX10_changeRow_40 rfl rfl ?_
  refine wx_aret C hQ dX10_changeRow_41 (Or.inl ⟨_, rfl⟩) (Or.inr ⟨_, rfl⟩) ?_
  refine ⟨_, rfl, rfl, rfl, ?_⟩
  unfold chg
  rw [actK_o M (a := 147 + 1) (by omega) (by omega) (by omega) (by omega), hx, show 19 + 3 * p + 1 = 20 + 3 * p by omega]
