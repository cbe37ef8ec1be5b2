/-! ===== Net: lines by an axis ===== -/
/-- what lines by an axis hang on: hours, places, END, GRID, the row's dots and their number -/
abbrev Lp : Type := (Nat → Int32) × (Nat → Int32) × Int32 × Int32 × (Nat → Nat) × Nat
def lo1 (t z : Nat → Int32) (e v : Int32) (r : Nat → Nat) : Nat → Int32
  | 0 => -2000
  | i + 1 => if lo1 t z e v r i < z (r i) - v * t (r i) - e then z (r i) - v * t (r i) - e else lo1 t z e v r i
def hi1 (t z : Nat → Int32) (e v : Int32) (r : Nat → Nat) : Nat → Int32
  | 0 => 2000
  | i + 1 => if z (r i) - v * t (r i) + e < hi1 t z e v r i then z (r i) - v * t (r i) + e else hi1 t z e v r i
def spL (p : Lp) (v : Int32) : Int32 := -(jfd (-(lo1 p.1 p.2.1 p.2.2.1 v p.2.2.2.2.1 p.2.2.2.2.2)) p.2.2.2.1)
def spG (p : Lp) (v : Int32) : Int32 := jfd (hi1 p.1 p.2.1 p.2.2.1 v p.2.2.2.2.1 p.2.2.2.2.2) p.2.2.2.1
def spK (p : Lp) (v : Int32) : Bool := decide (spL p v ≤ spG p v)
theorem lo1_up {t z : Nat → Int32} {e v : Int32} {r : Nat → Nat} {i : Nat} : ∀ n, (lo1 t z e v r i).toInt ≤ (lo1 t z e v r (i + n)).toInt
  | 0 => Int.le_refl _
  | n + 1 => by
    have h := lo1_up (t := t) (z := z) (e := e) (v := v) (r := r) (i := i) n
    rw [← Nat.add_assoc, lo1]
    split
    · rename_i h2
      rw [i_lt] at h2
      omega
    · exact h
theorem hi1_dn {t z : Nat → Int32} {e v : Int32} {r : Nat → Nat} {i : Nat} : ∀ n, (hi1 t z e v r (i + n)).toInt ≤ (hi1 t z e v r i).toInt
  | 0 => Int.le_refl _
  | n + 1 => by
    have h := hi1_dn (t := t) (z := z) (e := e) (v := v) (r := r) (i := i) n
    rw [← Nat.add_assoc, hi1]
    split
    · rename_i h2
      rw [i_lt] at h2
      omega
    · exact h
theorem lo1_ge {t z : Nat → Int32} {e v : Int32} {r : Nat → Nat} (i : Nat) : -2000 ≤ (lo1 t z e v r i).toInt := by
  have h := lo1_up (t := t) (z := z) (e := e) (v := v) (r := r) (i := 0) i
  rw [Nat.zero_add] at h
  exact h
theorem hi1_le {t z : Nat → Int32} {e v : Int32} {r : Nat → Nat} (i : Nat) : (hi1 t z e v r i).toInt ≤ 2000 := by
  have h := hi1_dn (t := t) (z := z) (e := e) (v := v) (r := r) (i := 0) i
  rw [Nat.zero_add] at h
  exact h
theorem sp_early {p : Lp} {v : Int32} {i : Nat} (hg : 1 ≤ p.2.2.2.1.toInt) (hi : i ≤ p.2.2.2.2.2) (h : hi1 p.1 p.2.1 p.2.2.1 v p.2.2.2.2.1 i < lo1 p.1 p.2.1 p.2.2.1 v p.2.2.2.2.1 i) : spK p v = false := by
  have h1 := lo1_up (t := p.1) (z := p.2.1) (e := p.2.2.1) (v := v) (r := p.2.2.2.2.1) (i := i) (p.2.2.2.2.2 - i)
  have h2 := hi1_dn (t := p.1) (z := p.2.1) (e := p.2.2.1) (v := v) (r := p.2.2.2.2.1) (i := i) (p.2.2.2.2.2 - i)
  rw [show i + (p.2.2.2.2.2 - i) = p.2.2.2.2.2 by omega] at h1 h2
  rw [i_lt] at h
  unfold spK spL spG
  rw [decide_eq_false_iff_not]
  exact fd_gap hg (lo1_ge _) (by rw [i_lt]; omega)
/-- a row that is one: length and dots -/
def rok (M : g_M) (k l : Nat) (r : Nat → Nat) : Prop := g_row k ∧ M k 1 = nI l ∧ l ≤ 16 ∧ ∀ i, i < l → M (k + 1) i = nI (r i) ∧ r i < 60
def cLp (M : g_M) (ax : Int32) (r : Nat → Nat) (l : Nat) : Lp := (M 2, plc (M 3) (M 4) ax, M 7 2, M 7 1, r, l)
/-- the Net's own two numbers are told anew -/
def nt (M : g_M) (a b : Int32) : g_M := g_st (g_st M 7 3 a) 7 4 b
theorem nt_ap (M : g_M) (a b : Int32) (x y : Nat) : nt M a b x y = if x = 7 ∧ y = 4 then b else if x = 7 ∧ y = 3 then a else M x y := by
  unfold nt; rw [g_st_ap, g_st_ap]
theorem nt_o (M : g_M) (a b : Int32) {x : Nat} (h : x ≠ 7) : nt M a b x = M x := by
  funext y
  rw [nt_ap, if_neg (by omega), if_neg (by omega)]
theorem nt_nt (M : g_M) (a b c d : Int32) : nt (nt M a b) c d = nt M c d := by
  funext x y
  simp only [nt_ap]
  (repeat' split) <;> first | rfl | (exfalso; omega)
theorem nt_self (M : g_M) : nt M (M 7 3) (M 7 4) = M := by
  funext x y
  simp only [nt_ap]
  (repeat' split)
  · rename_i h; rw [h.1, h.2]
  · rename_i h; rw [h.1, h.2]
  · rfl
theorem nt_cLp (M : g_M) (a b ax : Int32) (r : Nat → Nat) (l : Nat) : cLp (nt M a b) ax r l = cLp M ax r l := rfl
theorem g_row_7 {j : Nat} (h : g_row j) : j ≠ 7 ∧ j + 1 ≠ 7 := by
  rcases h with rfl | rfl | ⟨p, hp, rfl⟩ | ⟨i, hi, rfl⟩ <;> omega
theorem rok.nt {M : g_M} {k l : Nat} {r : Nat → Nat} (h : rok M k l r) (a b : Int32) : rok (nt M a b) k l r := by
  obtain ⟨h1, h2, h3, h4⟩ := h
  obtain ⟨e1, e2⟩ := g_row_7 h1
  exact ⟨h1, by rw [nt_o _ _ _ e1]; exact h2, h3, fun i hi => by rw [nt_o _ _ _ e2]; exact h4 i hi⟩
theorem stp1 {g : Int32} (h : 1 ≤ g.toInt) : (if 1 < g then g else 1) = g := by
  split
  · rfl
  · rename_i h2
    rw [i_lt, show (1 : Int32).toInt = 1 from rfl] at h2
    rw [i_eq, show (1 : Int32).toInt = 1 from rfl]
    omega
theorem ne0_1 {g : Int32} (h : 1 ≤ g.toInt) : ¬ g = 0 := by
  intro e
  rw [e, show (0 : Int32).toInt = 0 from rfl] at h
  omega
/-- what span leaves -/
def spP (M : g_M) (L : g_L) (p : Lp) (v : Int32) : Int32 → g_M → g_L → Prop := fun u M' L' => L = L' ∧ u = bI (spK p v) ∧ ∃ a b, M' = nt M a b ∧ (spK p v = true → a = spL p v ∧ b = spG p v)
set_option maxHeartbeats 4000000 in
set_option maxRecDepth 100000 in
theorem e_X4_span {X : g_X} {Qr : Option Value → g_M → g_L → Prop} (C : Cx X cX4_span 9 RX4 (some .boolean) 1) (hQ : Rx X Qr) {M : g_M} {L : g_L} {k l : Nat} {r : Nat → Nat} {ax v lo hi x6 : Int32} (hk : rok M k l r) (hg0 : 1 ≤ (M 7 1).toInt) (hK0 : spK (cLp M ax r l) v = decide (-(jfd (-lo) (M 7 1)) ≤ jfd hi (M 7 1))) (hE0 : spK (cLp M ax r l) v = true → -(jfd (-lo) (M 7 1)) = spL (cLp M ax r l) v ∧ jfd hi (M 7 1) = spG (cLp M ax r l) v) (hp : ∀ u M1 L1, spP M L (cLp M ax r l) v u M1 L1 → Qr (some (.int u)) M1 L1) : wx X M L 97 [(0, .ref (X.1.1 + 7)), (1, .ref (X.1.1 + k)), (2, .int ax), (3, .int v), (4, .int lo), (5, .int hi), (6, .int x6)] [] := by
  refine wx_iconst C 1 dX4_span_97 (by decide) ?_
  refine wx_aload_n C 0 dX4_span_98 rfl rfl ?_
  refine gf_X4_9 C dX4_span_99 ?_
  refine wx_mmax C w2_192 w2_193 w1_13 w2_194 (by decide) (Nat.le_of_ble_eq_true rfl) dX4_span_102 ?_
  refine wx_nmi (fun stp hstp => ?_)
  have hstp : stp = M 7 1 := hstp.trans (stp1 hg0)
  have hg : 1 ≤ stp.toInt := by rw [hstp]; exact hg0
  refine wx_istore C [1, 2, 3, 4, 5, 6, 0] [(0, .ref (X.1.1 + 7)), (1, .ref (X.1.1 + k)), (2, .int ax), (3, .int v), (4, .int lo), (5, .int hi), (6, .int stp)] dX4_span_105 (by decide) rfl ?_
  refine wx_aload_n C 0 dX4_span_107 rfl rfl ?_
  refine wx_iload C 4 dX4_span_108 rfl ?_
  refine wx_ineg C dX4_span_110 ?_
  refine wx_iload C 6 dX4_span_111 rfl ?_
  refine ca_X4_48 C (rest := [.ref (X.1.1 + 7)]) (t_J9_floorDiv_7cf53 X.1 M L (-lo) stp (ne0_1 hg)) (by decide) rfl rfl (Nat.le_of_ble_eq_true rfl) dX4_span_113 (kI fun r113 M113 L113 q113 => ?_)
  obtain ⟨rfl, rfl, rfl⟩ := q113
  refine wx_ineg C dX4_span_116 ?_
  refine pf_X4_51 C dX4_span_117 ?_
  refine wx_aload_n C 0 dX4_span_120 rfl rfl ?_
  refine wx_iload C 5 dX4_span_121 rfl ?_
  refine wx_iload C 6 dX4_span_123 rfl ?_
  refine ca_X4_48 C (rest := [.ref (X.1.1 + 7)]) (t_J9_floorDiv_7cf53 X.1 (g_st M 7 3 (-(jfd (-lo) stp))) L hi stp (ne0_1 hg)) (by decide) rfl rfl (Nat.le_of_ble_eq_true rfl) dX4_span_125 (kI fun r125 M125 L125 q125 => ?_)
  obtain ⟨rfl, rfl, rfl⟩ := q125
  refine pf_X4_54 C dX4_span_128 ?_
  refine wx_aload_n C 0 dX4_span_131 rfl rfl ?_
  refine gf_X4_51 C dX4_span_132 ?_
  refine wx_aload_n C 0 dX4_span_135 rfl rfl ?_
  refine gf_X4_54 C dX4_span_136 ?_
  refine wx_icmp_gt C 146 dX4_span_139 (by decide) (fun c139 => ?_) (fun c139 => ?_)
  · refine wx_iconst C 0 dX4_span_146 (by decide) ?_
    refine wx_zret C hQ dX4_span_147 (by decide) ?_
    refine hp _ _ _ ⟨rfl, ?_, _, _, rfl, ?_⟩
    · rw [(show spK (cLp M ax r l) v = decide (-(jfd (-lo) stp) ≤ jfd hi stp) by rw [hstp]; exact hK0)]
      simp only [g_st_ap] at c139
      rw [decide_eq_false]
      · rfl
      · simpa using c139
    · intro hk2
      rw [hstp]; exact hE0 hk2
  · refine wx_iconst C 1 dX4_span_142 (by decide) ?_
    refine wx_goto C 147 dX4_span_143 (by decide) ?_
    refine wx_zret C hQ dX4_span_147 (by decide) ?_
    refine hp _ _ _ ⟨rfl, ?_, _, _, rfl, ?_⟩
    · rw [(show spK (cLp M ax r l) v = decide (-(jfd (-lo) stp) ≤ jfd hi stp) by rw [hstp]; exact hK0)]
      simp only [g_st_ap] at c139
      rw [decide_eq_true]
      · rfl
      · simpa using c139
    · intro hk2
      rw [hstp]; exact hE0 hk2
set_option maxHeartbeats 4000000 in
set_option maxRecDepth 100000 in
theorem lp_X4_span {X : g_X} {Qr : Option Value → g_M → g_L → Prop} (C : Cx X cX4_span 9 RX4 (some .boolean) 1) (hQ : Rx X Qr) {M : g_M} {L : g_L} {k l : Nat} {r : Nat → Nat} {ax v : Int32} (hk : rok M k l r) (hg0 : 1 ≤ (M 7 1).toInt) (hp : ∀ u M1 L1, spP M L (cLp M ax r l) v u M1 L1 → Qr (some (.int u)) M1 L1) : ∀ (n i : Nat), i ≤ l → l < i + n → wx X M L 13 [(0, .ref (X.1.1 + 7)), (1, .ref (X.1.1 + k)), (2, .int ax), (3, .int v), (4, .int (lo1 (M 2) (plc (M 3) (M 4) ax) (M 7 2) v r i)), (5, .int (hi1 (M 2) (plc (M 3) (M 4) ax) (M 7 2) v r i)), (6, .int (nI i))] [] := by
  intro n
  induction n with
  | zero =>
    intro i h1 h2
    exact absurd h2 (by omega)
  | succ n ih =>
    intro i hi0 hin
    refine wx_iload C 6 dX4_span_13 rfl ?_
    refine wx_aload_n C 1 dX4_span_15 rfl rfl ?_
    refine gf_X4_22 C hk.1 dX4_span_16 ?_
    refine wx_icmp_ge C 97 dX4_span_19 (by decide) (fun c19 => ?_) (fun c19 => ?_)
    · first
      | exact e_X4_span C hQ hk hg0 (by rw [sp_early (p := cLp M ax r l) hg0 hi0 c26]; exact (decide_eq_false (fd_gap hg0 (lo1_ge _) c26)).symm) (fun h => by rw [sp_early (p := cLp M ax r l) hg0 hi0 c26] at h; cases h) hp
      | (have hib : i = l := by
          rw [hk.2.1] at c19
          have := hk.2.2.1
          exact Nat.le_antisymm hi0 ((nI_leI (by omega) (by omega)).mp c19)
         rw [hib]
         exact e_X4_span C hQ hk hg0 rfl (fun _ => ⟨rfl, rfl⟩) hp)
    · have hi : i < l := by
        rw [hk.2.1] at c19
        have := hk.2.2.1
        exact Nat.lt_of_not_le (fun h => c19 ((nI_leI (by omega) (by omega)).mpr h))
      refine wx_iload C 4 dX4_span_22 rfl ?_
      refine wx_iload C 5 dX4_span_24 rfl ?_
      refine wx_icmp_gt C 97 dX4_span_26 (by decide) (fun c26 => ?_) (fun c26 => ?_)
      · first
        | exact e_X4_span C hQ hk hg0 (by rw [sp_early (p := cLp M ax r l) hg0 hi0 c26]; exact (decide_eq_false (fd_gap hg0 (lo1_ge _) c26)).symm) (fun h => by rw [sp_early (p := cLp M ax r l) hg0 hi0 c26] at h; cases h) hp
        | (have hib : i = l := by
            rw [hk.2.1] at c19
            have := hk.2.2.1
            exact Nat.le_antisymm hi0 ((nI_leI (by omega) (by omega)).mp c19)
           rw [hib]
           exact e_X4_span C hQ hk hg0 rfl (fun _ => ⟨rfl, rfl⟩) hp)
      · refine wx_aload_n C 1 dX4_span_29 rfl rfl ?_
        refine gf_X4_27 C hk.1 dX4_span_30 ?_
        refine wx_iload C 6 dX4_span_33 rfl ?_
        refine wx_iald C (k + 1) i (g_row_lt2 hk.1) (sh_rowD hk.1) (by decide) dX4_span_35 rfl (by have := hk.2.2.1; omega) ?_
        refine wx_istore C [1, 2, 3, 4, 5, 6, 7, 0] [(0, .ref (X.1.1 + 7)), (1, .ref (X.1.1 + k)), (2, .int ax), (3, .int v), (4, .int (lo1 (M 2) (plc (M 3) (M 4) ax) (M 7 2) v r i)), (5, .int (hi1 (M 2) (plc (M 3) (M 4) ax) (M 7 2) v r i)), (6, .int (nI i)), (7, .int (M (k + 1) i))] dX4_span_36 (by decide) rfl ?_
        refine wx_aload_n C 0 dX4_span_38 rfl rfl ?_
        refine gf_X4_18 C dX4_span_39 ?_
        refine wx_iload C 7 dX4_span_42 rfl ?_
        refine wx_iload_n C 2 dX4_span_44 rfl rfl ?_
        refine ca_X4_31 C (rest := []) (t_X7_placeOf X.1 M L (hk.2.2.2 i hi).1 (hk.2.2.2 i hi).2 ax) (by decide) rfl (by decide) rfl rfl (Nat.le_of_ble_eq_true rfl) dX4_span_45 (kI fun r45 M45 L45 q45 => ?_)
        obtain ⟨rfl, rfl, rfl⟩ := q45
        refine wx_iload_n C 3 dX4_span_48 rfl rfl ?_
        refine wx_aload_n C 0 dX4_span_49 rfl rfl ?_
        refine gf_X4_18 C dX4_span_50 ?_
        refine gf_X4_37 C dX4_span_53 ?_
        refine wx_iload C 7 dX4_span_56 rfl ?_
        refine wx_iald C 2 (r i) (by decide) (fun _ _ => rfl) (by decide) dX4_span_58 ((hk.2.2.2 i hi).1) (hk.2.2.2 i hi).2 ?_
        refine wx_imul C dX4_span_59 ?_
        refine wx_isub C dX4_span_60 ?_
        refine wx_istore C [1, 2, 3, 4, 5, 6, 7, 8, 0] [(0, .ref (X.1.1 + 7)), (1, .ref (X.1.1 + k)), (2, .int ax), (3, .int v), (4, .int (lo1 (M 2) (plc (M 3) (M 4) ax) (M 7 2) v r i)), (5, .int (hi1 (M 2) (plc (M 3) (M 4) ax) (M 7 2) v r i)), (6, .int (nI i)), (7, .int (M (k + 1) i)), (8, .int ((plc (M 3) (M 4) ax (r i)) - (v * (M 2 (r i)))))] dX4_span_61 (by decide) rfl ?_
        refine wx_iload C 4 dX4_span_63 rfl ?_
        refine wx_iload C 8 dX4_span_65 rfl ?_
        refine wx_aload_n C 0 dX4_span_67 rfl rfl ?_
        refine gf_X4_15 C dX4_span_68 ?_
        refine wx_isub C dX4_span_71 ?_
        refine wx_mmax C w2_192 w2_193 w1_13 w2_194 (by decide) (Nat.le_of_ble_eq_true rfl) dX4_span_72 ?_
        refine wx_istore C [1, 2, 3, 4, 0, 5, 6, 7, 8] [(0, .ref (X.1.1 + 7)), (1, .ref (X.1.1 + k)), (2, .int ax), (3, .int v), (4, .int (if (lo1 (M 2) (plc (M 3) (M 4) ax) (M 7 2) v r i) < (((plc (M 3) (M 4) ax (r i)) - (v * (M 2 (r i)))) - (M 7 2)) then (((plc (M 3) (M 4) ax (r i)) - (v * (M 2 (r i)))) - (M 7 2)) else (lo1 (M 2) (plc (M 3) (M 4) ax) (M 7 2) v r i))), (5, .int (hi1 (M 2) (plc (M 3) (M 4) ax) (M 7 2) v r i)), (6, .int (nI i)), (7, .int (M (k + 1) i)), (8, .int ((plc (M 3) (M 4) ax (r i)) - (v * (M 2 (r i)))))] dX4_span_75 (by decide) rfl ?_
        refine wx_iload C 5 dX4_span_77 rfl ?_
        refine wx_iload C 8 dX4_span_79 rfl ?_
        refine wx_aload_n C 0 dX4_span_81 rfl rfl ?_
        refine gf_X4_15 C dX4_span_82 ?_
        refine wx_iadd C dX4_span_85 ?_
        refine wx_mmin C w2_195 w2_196 w1_13 w2_197 (by decide) (Nat.le_of_ble_eq_true rfl) dX4_span_86 ?_
        refine wx_istore C [1, 2, 3, 4, 5, 0, 6, 7, 8] [(0, .ref (X.1.1 + 7)), (1, .ref (X.1.1 + k)), (2, .int ax), (3, .int v), (4, .int (if (lo1 (M 2) (plc (M 3) (M 4) ax) (M 7 2) v r i) < (((plc (M 3) (M 4) ax (r i)) - (v * (M 2 (r i)))) - (M 7 2)) then (((plc (M 3) (M 4) ax (r i)) - (v * (M 2 (r i)))) - (M 7 2)) else (lo1 (M 2) (plc (M 3) (M 4) ax) (M 7 2) v r i))), (5, .int (if (((plc (M 3) (M 4) ax (r i)) - (v * (M 2 (r i)))) + (M 7 2)) < (hi1 (M 2) (plc (M 3) (M 4) ax) (M 7 2) v r i) then (((plc (M 3) (M 4) ax (r i)) - (v * (M 2 (r i)))) + (M 7 2)) else (hi1 (M 2) (plc (M 3) (M 4) ax) (M 7 2) v r i))), (6, .int (nI i)), (7, .int (M (k + 1) i)), (8, .int ((plc (M 3) (M 4) ax (r i)) - (v * (M 2 (r i)))))] dX4_span_89 (by decide) rfl ?_
        refine wx_iinc C (v := (nI (i + 1))) 6 [1, 2, 3, 4, 5, 6, 0, 7, 8] [(0, .ref (X.1.1 + 7)), (1, .ref (X.1.1 + k)), (2, .int ax), (3, .int v), (4, .int (if (lo1 (M 2) (plc (M 3) (M 4) ax) (M 7 2) v r i) < (((plc (M 3) (M 4) ax (r i)) - (v * (M 2 (r i)))) - (M 7 2)) then (((plc (M 3) (M 4) ax (r i)) - (v * (M 2 (r i)))) - (M 7 2)) else (lo1 (M 2) (plc (M 3) (M 4) ax) (M 7 2) v r i))), (5, .int (if (((plc (M 3) (M 4) ax (r i)) - (v * (M 2 (r i)))) + (M 7 2)) < (hi1 (M 2) (plc (M 3) (M 4) ax) (M 7 2) v r i) then (((plc (M 3) (M 4) ax (r i)) - (v * (M 2 (r i)))) + (M 7 2)) else (hi1 (M 2) (plc (M 3) (M 4) ax) (M 7 2) v r i))), (6, .int (nI (i + 1))), (7, .int (M (k + 1) i)), (8, .int ((plc (M 3) (M 4) ax (r i)) - (v * (M 2 (r i)))))] dX4_span_91 rfl (nI_1 _) (by decide) rfl ?_
        refine wx_goto C 13 dX4_span_94 (by decide) ?_
        exact wx_sub [0, 1, 2, 3, 4, 5, 6] rfl (ih (i + 1) (by omega) (by omega))
set_option maxHeartbeats 4000000 in
set_option maxRecDepth 100000 in
theorem t_X4_span (G : g_G) (M : g_M) (L : g_L) {k l : Nat} {r : Nat → Nat} (hk : rok M k l r) (hg0 : 1 ≤ (M 7 1).toInt) (ax v : Int32) : mt G yX4_span (Cond.code yX4_span cX4_span 9 (some .boolean)) 1 [.ref (G.1 + 7), .ref (G.1 + k), .int ax, .int v] M L (qI (spP M L (cLp M ax r l) v)) := by
  refine mt_of (by decide) rfl (Nat.le_of_ble_eq_true rfl) [(0, .ref (G.1 + 7)), (1, .ref (G.1 + k)), (2, .int ax), (3, .int v)] rfl (fun X hG C hQ => ?_)
  subst hG
  refine wx_sipush C (-2000) dX4_span_0 (by decide) ?_
  refine wx_istore C [1, 2, 3, 4, 0] [(0, .ref (X.1.1 + 7)), (1, .ref (X.1.1 + k)), (2, .int ax), (3, .int v), (4, .int (-2000))] dX4_span_3 (by decide) rfl ?_
  refine wx_sipush C 2000 dX4_span_5 (by decide) ?_
  refine wx_istore C [1, 2, 3, 4, 5, 0] [(0, .ref (X.1.1 + 7)), (1, .ref (X.1.1 + k)), (2, .int ax), (3, .int v), (4, .int (-2000)), (5, .int 2000)] dX4_span_8 (by decide) rfl ?_
  refine wx_iconst C 0 dX4_span_10 (by decide) ?_
  refine wx_istore C [1, 2, 3, 4, 5, 6, 0] [(0, .ref (X.1.1 + 7)), (1, .ref (X.1.1 + k)), (2, .int ax), (3, .int v), (4, .int (-2000)), (5, .int 2000), (6, .int 0)] dX4_span_11 (by decide) rfl ?_
  exact lp_X4_span C hQ hk hg0 (fun u M1 L1 h => ⟨u, rfl, h⟩) (l + 1) 0 (by omega) (by omega)
