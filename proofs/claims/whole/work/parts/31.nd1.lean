/-- the places that stay: how many of the first i, and which -/
def kS (Q : Nat → Bool) : Nat → Nat × (Nat → Nat)
  | 0 => (0, fun _ => 0)
  | i + 1 => if Q i then ((kS Q i).1 + 1, fun j => if j = (kS Q i).1 then i else (kS Q i).2 j) else kS Q i
theorem kS_le (Q : Nat → Bool) : ∀ i, (kS Q i).1 ≤ i
  | 0 => Nat.le_refl 0
  | i + 1 => by
    have h := kS_le Q i
    rw [kS]
    split
    · show (kS Q i).1 + 1 ≤ i + 1
      omega
    · omega
theorem kS_lt (Q : Nat → Bool) : ∀ i j, j < (kS Q i).1 → (kS Q i).2 j < i
  | 0, j, h => absurd h (Nat.not_lt_zero j)
  | i + 1, j, h => by
    have ih := kS_lt Q i j
    rw [kS] at h ⊢
    split at h
    · rename_i hq
      rw [if_pos hq]
      show (if j = (kS Q i).1 then i else (kS Q i).2 j) < i + 1
      split
      · omega
      · have h2 : j < (kS Q i).1 + 1 := h
        have := ih (by omega)
        omega
    · rename_i hq
      rw [if_neg hq]
      have := ih h
      omega
def ksM (M : g_M) (k : Nat) (Q : Nat → Bool) (i : Nat) : g_M := g_sr M 147 (kS Q i).1 (fun j => M (k + 1) ((kS Q i).2 j))
theorem ksM_1 (M : g_M) (k : Nat) (Q : Nat → Bool) (i : Nat) (h : Q i = true) : g_st (g_st (ksM M k Q i) 148 (kS Q i).1 (M (k + 1) i)) 147 1 (nI ((kS Q i).1 + 1)) = ksM M k Q (i + 1) := by
  unfold ksM
  rw [g_sr_add M 147 (kS Q i).1]
  have e : kS Q (i + 1) = ((kS Q i).1 + 1, fun j => if j = (kS Q i).1 then i else (kS Q i).2 j) := by rw [kS, if_pos h]
  rw [e]
  refine g_sr_cong _ _ _ (fun j hj => ?_)
  show upd _ _ _ j = M (k + 1) (if j = (kS Q i).1 then i else (kS Q i).2 j)
  unfold upd
  split <;> rfl
theorem ksM_2 (M : g_M) (k : Nat) (Q : Nat → Bool) (i : Nat) (h : Q i = false) : ksM M k Q i = ksM M k Q (i + 1) := by
  unfold ksM
  have e : kS Q (i + 1) = kS Q i := by rw [kS, if_neg (by rw [h]; decide)]
  rw [e]
/-- place i of l stays, if the mask m leaves it out -/
def stQ (m : Int32) (l i : Nat) : Bool := decide ((m >>> ((nI l - 1 - nI i) &&& 31)) &&& 1 = 0)
set_option maxHeartbeats 4000000 in
set_option maxRecDepth 100000 in
theorem lp_X10_keepStaying {X : g_X} {Qr : Option Value → g_M → g_L → Prop} (C : Cx X cX10_keepStaying 4 RX10 none 1) (hQ : Rx X Qr) {M : g_M} {L : g_L} {k l : Nat} {m : Int32} (hk : g_row k) (hl : M k 1 = nI l) (h16 : l ≤ 16) (hk1 : k ≠ 147) (hk2 : k ≠ 148) (hk3 : k + 1 ≠ 147) (hp : Qr none (ksM M k (stQ m l) l) L) : ∀ (n i : Nat), i ≤ l → l < i + n → wx X (ksM M k (stQ m l) i) L 9 [(0, .ref (X.1.1 + 0)), (1, .ref (X.1.1 + k)), (2, .int m), (3, .int (nI i))] [] := by
  intro n
  induction n with
  | zero =>
    intro i h1 h2
    exact absurd h2 (by omega)
  | succ n ih =>
    intro i hi0 hin
    have hl0 : ksM M k (stQ m l) i k 1 = nI l := by rw [ksM, g_sr_out _ _ _ _ _ hk1 hk2]; exact hl
    have hcl := kS_le (stQ m l) i
    refine wx_iload_n C 3 dX10_keepStaying_9 rfl rfl ?_
    refine wx_aload_n C 1 dX10_keepStaying_10 rfl rfl ?_
    refine gf_X10_183 C hk dX10_keepStaying_11 ?_
    refine wx_icmp_ge C 51 dX10_keepStaying_14 (by decide) (fun c14 => ?_) (fun c14 => ?_)
    · have hib : i = l := by
        rw [hl0] at c14
        exact Nat.le_antisymm hi0 ((nI_leI (by omega) (by omega)).mp c14)
      refine wx_vret C hQ dX10_keepStaying_51 ?_
      rw [hib]
      exact hp
    · have hi : i < l := by
        rw [hl0] at c14
        exact Nat.lt_of_not_le (fun h => c14 ((nI_leI (by omega) (by omega)).mpr h))
      refine wx_iload_n C 2 dX10_keepStaying_17 rfl rfl ?_
      refine wx_aload_n C 1 dX10_keepStaying_18 rfl rfl ?_
      refine gf_X10_183 C hk dX10_keepStaying_19 ?_
      refine wx_iconst C 1 dX10_keepStaying_22 (by decide) ?_
      refine wx_isub C dX10_keepStaying_23 ?_
      refine wx_iload_n C 3 dX10_keepStaying_24 rfl rfl ?_
      refine wx_isub C dX10_keepStaying_25 ?_
      refine wx_ishr C dX10_keepStaying_26 ?_
      refine wx_iconst C 1 dX10_keepStaying_27 (by decide) ?_
      refine wx_iand C dX10_keepStaying_28 ?_
      refine wx_if_ne C 45 dX10_keepStaying_29 (by decide) (fun c29 => ?_) (fun c29 => ?_)
      · refine wx_iinc C (v := (nI (i + 1))) 3 [1, 2, 3, 0] [(0, .ref (X.1.1 + 0)), (1, .ref (X.1.1 + k)), (2, .int m), (3, .int (nI (i + 1)))] dX10_keepStaying_45 rfl (nI_1 _) (by decide) rfl ?_
        refine wx_goto C 9 dX10_keepStaying_48 (by decide) ?_
        rw [hl0] at c29
        rw [ksM_2 M k (stQ m l) i (decide_eq_false c29)]
        exact ih (i + 1) (by omega) (by omega)
      · refine wx_aload_n C 0 dX10_keepStaying_32 rfl rfl ?_
        refine gf_X10_67 C dX10_keepStaying_33 ?_
        refine wx_aload_n C 1 dX10_keepStaying_36 rfl rfl ?_
        refine gf_X10_241 C hk dX10_keepStaying_37 ?_
        refine wx_iload_n C 3 dX10_keepStaying_40 rfl rfl ?_
        refine wx_iald C (k + 1) i (g_row_lt2 hk) (sh_rowD hk) (by decide) dX10_keepStaying_41 rfl (by omega) ?_
        refine ca_X10_156 C (rest := []) (t_X6_add X.1 (ksM M k (stQ m l) i) L rw_147 (l := (kS (stQ m l) i).1) (g_sr_len _ _ _ _) (by omega) _) (g_row_lt1 rw_147) (sh_row rw_147 _ _) (by decide) rfl rfl (Nat.le_of_ble_eq_true rfl) dX10_keepStaying_42 (kV fun M42 L42 q42 => ?_)
        obtain ⟨rfl, rfl⟩ := q42
        have e42 : ksM M k (stQ m l) i (k + 1) i = M (k + 1) i := by rw [ksM, g_sr_out _ _ _ _ _ hk3 (by omega)]
        rw [e42]
        rw [hl0] at c29
        rw [ksM_1 M k (stQ m l) i (decide_eq_true c29)]
        refine wx_iinc C (v := (nI (i + 1))) 3 [1, 2, 3, 0] [(0, .ref (X.1.1 + 0)), (1, .ref (X.1.1 + k)), (2, .int m), (3, .int (nI (i + 1)))] dX10_keepStaying_45 rfl (nI_1 _) (by decide) rfl ?_
        refine wx_goto C 9 dX10_keepStaying_48 (by decide) ?_
        exact ih (i + 1) (by omega) (by omega)
set_option maxHeartbeats 4000000 in
set_option maxRecDepth 100000 in
theorem t_X10_keepStaying (G : g_G) (M : g_M) (L : g_L) {k l : Nat} (hk : g_row k) (hl : M k 1 = nI l) (h16 : l ≤ 16) (hk1 : k ≠ 147) (m : Int32) : mt G yX10_keepStaying (Cond.code yX10_keepStaying cX10_keepStaying 4 none) 1 [.ref (G.1 + 0), .ref (G.1 + k), .int m] M L (qV fun M' L' => L = L' ∧ M' = ksM M k (stQ m l) l) := by
  refine mt_of (by decide) rfl (Nat.le_of_ble_eq_true rfl) [(0, .ref (G.1 + 0)), (1, .ref (G.1 + k)), (2, .int m)] rfl (fun X hG C hQ => ?_)
  subst hG
  have hk2 : k ≠ 148 := g_row_ne rw_147 hk
  have hk3 : k + 1 ≠ 147 := fun h => g_row_ne hk rw_147 h.symm
  refine wx_aload_n C 0 dX10_keepStaying_0 rfl rfl ?_
  refine gf_X10_67 C dX10_keepStaying_1 ?_
  refine ca_X10_153 C (rest := []) (t_X6_clear X.1 M L rw_147) (g_row_lt1 rw_147) (sh_row rw_147 _ _) (by decide) rfl rfl (Nat.le_of_ble_eq_true rfl) dX10_keepStaying_4 (kV fun M4 L4 q4 => ?_)
  obtain ⟨rfl, rfl⟩ := q4
  rw [g_sr_0 M 147 (fun j => M (k + 1) 0)]
  refine wx_iconst C 0 dX10_keepStaying_7 (by decide) ?_
  refine wx_istore_n C [1, 2, 3, 0] [(0, .ref (X.1.1 + 0)), (1, .ref (X.1.1 + k)), (2, .int m), (3, .int 0)] dX10_keepStaying_8 rfl (by decide) rfl ?_
  exact lp_X10_keepStaying C hQ hk hl h16 hk1 hk2 hk3 ⟨rfl, rfl, rfl⟩ (l + 1) 0 (by omega) (by omega)
