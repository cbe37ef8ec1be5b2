/-! ===== the reference: lines and heaps ===== -/
/-- what lines leaves -/
def lnP (M : g_M) (L : g_L) (p : Lp) (v : Int32) : Int32 → g_M → g_L → Prop := fun u M' L' => L = L' ∧ u = cnI p v ∧ M' = mn M (spL p v) (spG p v)
set_option maxHeartbeats 4000000 in
set_option maxRecDepth 100000 in
theorem lp_X11_lines {X : g_X} {Qr : Option Value → g_M → g_L → Prop} (C : Cx X cX11_lines 7 RX11 (some .int) 1) (hQ : Rx X Qr) {M : g_M} {L : g_L} {l : Nat} {r : Nat → Nat} {ax v : Int32} (hk : sok M l r) (hg : 1 ≤ (M 149 3).toInt) (hp : ∀ u M1 L1, lnP M L (mLp M ax r l) v u M1 L1 → Qr (some (.int u)) M1 L1) : ∀ (n i : Nat), i ≤ l → l < i + n → wx X M L 12 [(0, .ref (X.1.1 + 149)), (1, .int ax), (2, .int v), (3, .int (lo1 (M 150) (plc (M 151) (M 152) ax) (M 149 4) v r i)), (4, .int (hi1 (M 150) (plc (M 151) (M 152) ax) (M 149 4) v r i)), (5, .int (nI i))] [] := by
  intro n
  induction n with
  | zero =>
    intro i h1 h2
    exact absurd h2 (by omega)
  | succ n ih =>
    intro i hi0 hin
    refine wx_iload C 5 dX11_lines_12 rfl ?_
    refine wx_aload_n C 0 dX11_lines_14 rfl rfl ?_
    refine gf_X11_96 C dX11_lines_15 ?_
    refine wx_icmp_ge C 82 dX11_lines_18 (by decide) (fun c18 => ?_) (fun c18 => ?_)
    · have hib : i = l := by
        rw [hk.1] at c18
        have := hk.2.1
        exact Nat.le_antisymm hi0 ((nI_leI (by omega) (by omega)).mp c18)
      rw [hib]
      refine wx_aload_n C 0 dX11_lines_82 rfl rfl ?_
      refine wx_iload_n C 3 dX11_lines_83 rfl rfl ?_
      refine wx_ineg C dX11_lines_84 ?_
      refine wx_aload_n C 0 dX11_lines_85 rfl rfl ?_
      refine gf_X11_13 C dX11_lines_86 ?_
      refine ca_X11_111 C (rest := [.ref (X.1.1 + 149)]) (t_J9_floorDiv_7cf53 X.1 M L (-(lo1 (M 150) (plc (M 151) (M 152) ax) (M 149 4) v r l)) (M 149 3) (ne0_1 hg)) (by decide) rfl rfl (Nat.le_of_ble_eq_true rfl) dX11_lines_89 (kI fun r89 M89 L89 q89 => ?_)
      obtain ⟨rfl, rfl, rfl⟩ := q89
      refine wx_ineg C dX11_lines_92 ?_
      refine pf_X11_114 C dX11_lines_93 ?_
      refine wx_aload_n C 0 dX11_lines_96 rfl rfl ?_
      refine wx_iload C 4 dX11_lines_97 rfl ?_
      refine wx_aload_n C 0 dX11_lines_99 rfl rfl ?_
      refine gf_X11_13 C dX11_lines_100 ?_
      refine ca_X11_111 C (rest := [.ref (X.1.1 + 149)]) (t_J9_floorDiv_7cf53 X.1 (g_st M 149 16 (-(jfd (-(lo1 (M 150) (plc (M 151) (M 152) ax) (M 149 4) v r l)) (M 149 3)))) L (hi1 (M 150) (plc (M 151) (M 152) ax) (M 149 4) v r l) ((g_st M 149 16 (-(jfd (-(lo1 (M 150) (plc (M 151) (M 152) ax) (M 149 4) v r l)) (M 149 3)))) 149 3) (ne0_1 hg)) (by decide) rfl rfl (Nat.le_of_ble_eq_true rfl) dX11_lines_103 (kI fun r103 M103 L103 q103 => ?_)
      obtain ⟨rfl, rfl, rfl⟩ := q103
      refine pf_X11_117 C dX11_lines_106 ?_
      refine wx_aload_n C 0 dX11_lines_109 rfl rfl ?_
      refine gf_X11_117 C dX11_lines_110 ?_
      refine wx_aload_n C 0 dX11_lines_113 rfl rfl ?_
      refine gf_X11_114 C dX11_lines_114 ?_
      refine wx_icmp_ge C 124 dX11_lines_117 (by decide) (fun c117 => ?_) (fun c117 => ?_)
      · refine wx_aload_n C 0 dX11_lines_124 rfl rfl ?_
        refine gf_X11_117 C dX11_lines_125 ?_
        refine wx_aload_n C 0 dX11_lines_128 rfl rfl ?_
        refine gf_X11_114 C dX11_lines_129 ?_
        refine wx_isub C dX11_lines_132 ?_
        refine wx_iconst C 1 dX11_lines_133 (by decide) ?_
        refine wx_iadd C dX11_lines_134 ?_
        refine wx_iret C hQ dX11_lines_135 ?_
        refine hp _ _ _ ⟨rfl, ?_, rfl⟩
        unfold cnI spK
        rw [if_pos (decide_eq_true (show spL (mLp M ax r l) v ≤ spG (mLp M ax r l) v from c117))]
        rfl
      · refine wx_iconst C 0 dX11_lines_120 (by decide) ?_
        refine wx_goto C 135 dX11_lines_121 (by decide) ?_
        refine wx_iret C hQ dX11_lines_135 ?_
        refine hp _ _ _ ⟨rfl, ?_, rfl⟩
        unfold cnI spK
        rw [if_neg (by rw [decide_eq_false (show ¬ spL (mLp M ax r l) v ≤ spG (mLp M ax r l) v from c117)]; decide)]
    · have hi : i < l := by
        rw [hk.1] at c18
        have := hk.2.1
        exact Nat.lt_of_not_le (fun h => c18 ((nI_leI (by omega) (by omega)).mpr h))
      have hri := hk.2.2 i hi
      refine wx_aload_n C 0 dX11_lines_21 rfl rfl ?_
      refine wx_aload_n C 0 dX11_lines_22 rfl rfl ?_
      refine gf_X11_48 C dX11_lines_23 ?_
      refine wx_iload C 5 dX11_lines_26 rfl ?_
      refine wx_iald C 159 i (by decide) (fun _ _ => rfl) (by decide) dX11_lines_28 rfl (by have := hk.2.1; omega) ?_
      refine wx_iload_n C 1 dX11_lines_29 rfl rfl ?_
      refine ca_X11_99 C (rest := []) (t_X11_placeOf X.1 M L hri.1 hri.2 ax) (by decide) rfl (by decide) rfl rfl (Nat.le_of_ble_eq_true rfl) dX11_lines_30 (kI fun r30 M30 L30 q30 => ?_)
      obtain ⟨rfl, rfl, rfl⟩ := q30
      refine wx_iload_n C 2 dX11_lines_33 rfl rfl ?_
      refine wx_aload_n C 0 dX11_lines_34 rfl rfl ?_
      refine gf_X11_19 C dX11_lines_35 ?_
      refine wx_aload_n C 0 dX11_lines_38 rfl rfl ?_
      refine gf_X11_48 C dX11_lines_39 ?_
      refine wx_iload C 5 dX11_lines_42 rfl ?_
      refine wx_iald C 159 i (by decide) (fun _ _ => rfl) (by decide) dX11_lines_44 rfl (by have := hk.2.1; omega) ?_
      refine wx_iald C 150 (r i) (by decide) (fun _ _ => rfl) (by decide) dX11_lines_45 hri.1 hri.2 ?_
      refine wx_imul C dX11_lines_46 ?_
      refine wx_isub C dX11_lines_47 ?_
      refine wx_istore C [1, 2, 3, 4, 5, 6, 0] [(0, .ref (X.1.1 + 149)), (1, .int ax), (2, .int v), (3, .int (lo1 (M 150) (plc (M 151) (M 152) ax) (M 149 4) v r i)), (4, .int (hi1 (M 150) (plc (M 151) (M 152) ax) (M 149 4) v r i)), (5, .int (nI i)), (6, .int ((plc (M 151) (M 152) ax (r i)) - (v * (M 150 (r i)))))] dX11_lines_48 (by decide) rfl ?_
      refine wx_iload_n C 3 dX11_lines_50 rfl rfl ?_
      refine wx_iload C 6 dX11_lines_51 rfl ?_
      refine wx_aload_n C 0 dX11_lines_53 rfl rfl ?_
      refine gf_X11_16 C dX11_lines_54 ?_
      refine wx_isub C dX11_lines_57 ?_
      refine wx_mmax C w4_139 w2_193 w1_13 w2_194 (by decide) (Nat.le_of_ble_eq_true rfl) dX11_lines_58 ?_
      refine wx_istore_n C [1, 2, 3, 0, 4, 5, 6] [(0, .ref (X.1.1 + 149)), (1, .int ax), (2, .int v), (3, .int (if (lo1 (M 150) (plc (M 151) (M 152) ax) (M 149 4) v r i) < (((plc (M 151) (M 152) ax (r i)) - (v * (M 150 (r i)))) - (M 149 4)) then (((plc (M 151) (M 152) ax (r i)) - (v * (M 150 (r i)))) - (M 149 4)) else (lo1 (M 150) (plc (M 151) (M 152) ax) (M 149 4) v r i))), (4, .int (hi1 (M 150) (plc (M 151) (M 152) ax) (M 149 4) v r i)), (5, .int (nI i)), (6, .int ((plc (M 151) (M 152) ax (r i)) - (v * (M 150 (r i)))))] dX11_lines_61 rfl (by decide) rfl ?_
      refine wx_iload C 4 dX11_lines_62 rfl ?_
      refine wx_iload C 6 dX11_lines_64 rfl ?_
      refine wx_aload_n C 0 dX11_lines_66 rfl rfl ?_
      refine gf_X11_16 C dX11_lines_67 ?_
      refine wx_iadd C dX11_lines_70 ?_
      refine wx_mmin C w4_140 w2_196 w1_13 w2_197 (by decide) (Nat.le_of_ble_eq_true rfl) dX11_lines_71 ?_
      refine wx_istore C [1, 2, 3, 4, 0, 5, 6] [(0, .ref (X.1.1 + 149)), (1, .int ax), (2, .int v), (3, .int (if (lo1 (M 150) (plc (M 151) (M 152) ax) (M 149 4) v r i) < (((plc (M 151) (M 152) ax (r i)) - (v * (M 150 (r i)))) - (M 149 4)) then (((plc (M 151) (M 152) ax (r i)) - (v * (M 150 (r i)))) - (M 149 4)) else (lo1 (M 150) (plc (M 151) (M 152) ax) (M 149 4) v r i))), (4, .int (if (((plc (M 151) (M 152) ax (r i)) - (v * (M 150 (r i)))) + (M 149 4)) < (hi1 (M 150) (plc (M 151) (M 152) ax) (M 149 4) v r i) then (((plc (M 151) (M 152) ax (r i)) - (v * (M 150 (r i)))) + (M 149 4)) else (hi1 (M 150) (plc (M 151) (M 152) ax) (M 149 4) v r i))), (5, .int (nI i)), (6, .int ((plc (M 151) (M 152) ax (r i)) - (v * (M 150 (r i)))))] dX11_lines_74 (by decide) rfl ?_
      refine wx_iinc C (v := (nI (i + 1))) 5 [1, 2, 3, 4, 5, 0, 6] [(0, .ref (X.1.1 + 149)), (1, .int ax), (2, .int v), (3, .int (if (lo1 (M 150) (plc (M 151) (M 152) ax) (M 149 4) v r i) < (((plc (M 151) (M 152) ax (r i)) - (v * (M 150 (r i)))) - (M 149 4)) then (((plc (M 151) (M 152) ax (r i)) - (v * (M 150 (r i)))) - (M 149 4)) else (lo1 (M 150) (plc (M 151) (M 152) ax) (M 149 4) v r i))), (4, .int (if (((plc (M 151) (M 152) ax (r i)) - (v * (M 150 (r i)))) + (M 149 4)) < (hi1 (M 150) (plc (M 151) (M 152) ax) (M 149 4) v r i) then (((plc (M 151) (M 152) ax (r i)) - (v * (M 150 (r i)))) + (M 149 4)) else (hi1 (M 150) (plc (M 151) (M 152) ax) (M 149 4) v r i))), (5, .int (nI (i + 1))), (6, .int ((plc (M 151) (M 152) ax (r i)) - (v * (M 150 (r i)))))] dX11_lines_76 rfl (nI_1 _) (by decide) rfl ?_
      refine wx_goto C 12 dX11_lines_79 (by decide) ?_
      exact wx_sub [0, 1, 2, 3, 4, 5] rfl (ih (i + 1) (by omega) (by omega))
set_option maxHeartbeats 4000000 in
set_option maxRecDepth 100000 in
theorem t_X11_lines (G : g_G) (M : g_M) (L : g_L) {l : Nat} {r : Nat → Nat} (hk : sok M l r) (hg : 1 ≤ (M 149 3).toInt) (ax v : Int32) : mt G yX11_lines (Cond.code yX11_lines cX11_lines 7 (some .int)) 1 [.ref (G.1 + 149), .int ax, .int v] M L (qI (lnP M L (mLp M ax r l) v)) := by
  refine mt_of (by decide) rfl (Nat.le_of_ble_eq_true rfl) [(0, .ref (G.1 + 149)), (1, .int ax), (2, .int v)] rfl (fun X hG C hQ => ?_)
  subst hG
  refine wx_sipush C (-2000) dX11_lines_0 (by decide) ?_
  refine wx_istore_n C [1, 2, 3, 0] [(0, .ref (X.1.1 + 149)), (1, .int ax), (2, .int v), (3, .int (-2000))] dX11_lines_3 rfl (by decide) rfl ?_
  refine wx_sipush C 2000 dX11_lines_4 (by decide) ?_
  refine wx_istore C [1, 2, 3, 4, 0] [(0, .ref (X.1.1 + 149)), (1, .int ax), (2, .int v), (3, .int (-2000)), (4, .int 2000)] dX11_lines_7 (by decide) rfl ?_
  refine wx_iconst C 0 dX11_lines_9 (by decide) ?_
  refine wx_istore C [1, 2, 3, 4, 5, 0] [(0, .ref (X.1.1 + 149)), (1, .int ax), (2, .int v), (3, .int (-2000)), (4, .int 2000), (5, .int 0)] dX11_lines_10 (by decide) rfl ?_
  exact lp_X11_lines C hQ hk hg (fun u M1 L1 h => ⟨u, rfl, h⟩) (l + 1) 0 (by omega) (by omega)
theorem t_lines2 (G : g_G) (M : g_M) (L : g_L) {l : Nat} {r : Nat → Nat} (hk : sok M l r) (hg : 1 ≤ (M 149 3).toInt) (a b ax v : Int32) : mt G yX11_lines (Cond.code yX11_lines cX11_lines 7 (some .int)) 1 [.ref (G.1 + 149), .int ax, .int v] (mn M a b) L (qI (lnP M L (mLp M ax r l) v)) := by
  refine mt_mono (t_X11_lines G (mn M a b) L (hk.mn a b) hg ax v) (fun r M1 L1 h => ?_)
  obtain ⟨u, e, h1, h2, h3⟩ := h
  rw [mn_mn] at h3
  exact ⟨u, e, h1, h2, h3⟩
set_option maxHeartbeats 4000000 in
set_option maxRecDepth 100000 in
theorem lp_X11_allLines {X : g_X} {Qr : Option Value → g_M → g_L → Prop} (C : Cx X cX11_allLines 5 RX11 (some .long) 2) (hQ : Rx X Qr) {M : g_M} {L : g_L} {l : Nat} {r : Nat → Nat} {ax : Int32} (hk : sok M l r) (hg : 1 ≤ (M 149 3).toInt) (hp : ∀ a b, Qr (some (.long (sumL (mLp M ax r l) 41))) (mn M a b) L) : ∀ (n i : Nat), i ≤ 41 → 41 < i + n → ∀ (a b : Int32), wx X (mn M a b) L 6 [(0, .ref (X.1.1 + 149)), (1, .int ax), (2, .long (sumL (mLp M ax r l) i)), (4, .int (vs i))] [] := by
  intro n
  induction n with
  | zero =>
    intro i h1 h2
    exact absurd h2 (by omega)
  | succ n ih =>
    intro i hi0 hin a b
    refine wx_iload C 3 dX11_allLines_6 rfl ?_
    refine wx_bipush C 20 dX11_allLines_8 (by decide) ?_
    refine wx_icmp_gt C 30 dX11_allLines_10 (by decide) (fun c10 => ?_) (fun c10 => ?_)
    · have hs : i = 41 := (vs_gt hi0).mp c10
      refine wx_lload_n C 2 dX11_allLines_30 rfl rfl ?_
      refine wx_lret C hQ dX11_allLines_31 ?_
      rw [hs]
      exact hp a b
    · have hs : i < 41 := by
        rw [vs_gt hi0] at c10
        omega
      refine wx_lload_n C 2 dX11_allLines_13 rfl rfl ?_
      refine wx_aload_n C 0 dX11_allLines_14 rfl rfl ?_
      refine wx_iload_n C 1 dX11_allLines_15 rfl rfl ?_
      refine wx_iload C 3 dX11_allLines_16 rfl ?_
      refine ca_X11_120 C (rest := [.long (sumL (mLp M ax r l) i)]) (t_lines2 X.1 M L hk hg a b ax (vs i)) (by decide) rfl (by decide) rfl rfl (Nat.le_of_ble_eq_true rfl) dX11_allLines_18 (kI fun r18 M18 L18 q18 => ?_)
      obtain ⟨rfl, rfl, rfl⟩ := q18
      refine wx_i2l C dX11_allLines_21 ?_
      refine wx_ladd C dX11_allLines_22 ?_
      refine wx_lstore_n C [1, 2, 0, 3] [(0, .ref (X.1.1 + 149)), (1, .int ax), (2, .long ((sumL (mLp M ax r l) i) + ((cnI (mLp M ax r l) (vs i)).toInt64))), (4, .int (vs i))] dX11_allLines_23 rfl (by decide) rfl ?_
      refine wx_iinc C (v := (vs (i + 1))) 3 [1, 2, 3, 0] [(0, .ref (X.1.1 + 149)), (1, .int ax), (2, .long ((sumL (mLp M ax r l) i) + ((cnI (mLp M ax r l) (vs i)).toInt64))), (4, .int (vs (i + 1)))] dX11_allLines_24 rfl (vs_1 i) (by decide) rfl ?_
      refine wx_goto C 6 dX11_allLines_27 (by decide) ?_
      exact ih (i + 1) (by omega) (by omega) _ _
set_option maxHeartbeats 4000000 in
set_option maxRecDepth 100000 in
theorem t_X11_allLines (G : g_G) (M : g_M) (L : g_L) {l : Nat} {r : Nat → Nat} (hk : sok M l r) (hg : 1 ≤ (M 149 3).toInt) (a b ax : Int32) : mt G yX11_allLines (Cond.code yX11_allLines cX11_allLines 5 (some .long)) 2 [.ref (G.1 + 149), .int ax] (mn M a b) L (qL fun v M' L' => L = L' ∧ v = sumL (mLp M ax r l) 41 ∧ ∃ a b, M' = mn M a b) := by
  refine mt_of (by decide) rfl (Nat.le_of_ble_eq_true rfl) [(0, .ref (G.1 + 149)), (1, .int ax)] rfl (fun X hG C hQ => ?_)
  subst hG
  refine wx_lconst C 0 dX11_allLines_0 (by decide) ?_
  refine wx_lstore_n C [1, 2, 0] [(0, .ref (X.1.1 + 149)), (1, .int ax), (2, .long 0)] dX11_allLines_1 rfl (by decide) rfl ?_
  refine wx_bipush C (-20) dX11_allLines_2 (by decide) ?_
  refine wx_istore C [1, 2, 3, 0] [(0, .ref (X.1.1 + 149)), (1, .int ax), (2, .long 0), (4, .int (-20))] dX11_allLines_4 (by decide) rfl ?_
  exact lp_X11_allLines C hQ hk hg (fun a b => ⟨_, rfl, rfl, rfl, a, b, rfl⟩) 42 0 (by omega) (by omega) a b
/-! how many lines there are at most; a heap is not empty just where its lines' sum is above 0 -/
theorem sp_rng {p : Lp} {v : Int32} (hg : 1 ≤ p.2.2.2.1.toInt) : -2000 ≤ (spL p v).toInt ∧ (spG p v).toInt ≤ 2000 := by
  have h1 := lo1_ge (t := p.1) (z := p.2.1) (e := p.2.2.1) (v := v) (r := p.2.2.2.2.1) p.2.2.2.2.2
  have h2 := hi1_le (t := p.1) (z := p.2.1) (e := p.2.2.1) (v := v) (r := p.2.2.2.2.1) p.2.2.2.2.2
  have hr := fb_rng (lo1 p.1 p.2.1 p.2.2.1 v p.2.2.2.2.1 p.2.2.2.2.2)
  have up : ∀ (a G : Int), 1 ≤ G → a ≤ 2000 → a / G ≤ 2000 := by
    intro a G hG ha
    have h := Int.ediv_mul_le a (b := G) (by omega)
    refine Int.not_lt.mp (fun hq => ?_)
    have h3 : (a / G) * 1 ≤ (a / G) * G := Int.mul_le_mul_of_nonneg_left hG (by omega)
    omega
  have hneg : (-(lo1 p.1 p.2.1 p.2.2.1 v p.2.2.2.2.1 p.2.2.2.2.2)).toInt = -(lo1 p.1 p.2.1 p.2.2.1 v p.2.2.2.2.1 p.2.2.2.2.2).toInt := fb_negI (by omega)
  have e1 : (jfd (-(lo1 p.1 p.2.1 p.2.2.1 v p.2.2.2.2.1 p.2.2.2.2.2)) p.2.2.2.1).toInt = (-(lo1 p.1 p.2.1 p.2.2.1 v p.2.2.2.2.1 p.2.2.2.2.2).toInt) / p.2.2.2.1.toInt := by rw [jfd_toInt hg, hneg]
  have q1 := up (-(lo1 p.1 p.2.1 p.2.2.1 v p.2.2.2.2.1 p.2.2.2.2.2).toInt) p.2.2.2.1.toInt hg (by omega)
  have h3 : -2147483647 ≤ (-(lo1 p.1 p.2.1 p.2.2.1 v p.2.2.2.2.1 p.2.2.2.2.2).toInt) / p.2.2.2.1.toInt := by
    apply Int.le_ediv_of_mul_le (by omega)
    have := Int.mul_le_mul_of_nonpos_left (a := -2147483647) (b := p.2.2.2.1.toInt) (c := 1) (by omega) (by omega)
    omega
  refine ⟨?_, ?_⟩
  · unfold spL
    rw [fb_negI (by rw [e1]; omega), e1]
    omega
  · unfold spG
    rw [jfd_toInt hg]
    exact up _ _ hg h2
theorem cnI_rng {p : Lp} {v : Int32} (hg : 1 ≤ p.2.2.2.1.toInt) : 0 ≤ (cnI p v).toInt ∧ (cnI p v).toInt ≤ 4001 ∧ (spK p v = true ↔ 0 < (cnI p v).toInt) := by
  obtain ⟨h1, h2⟩ := sp_rng (p := p) (v := v) hg
  unfold cnI
  by_cases hk : spK p v = true
  · rw [if_pos hk]
    have h3 : spL p v ≤ spG p v := of_decide_eq_true hk
    rw [i_le] at h3
    have e1 : (spG p v - spL p v).toInt = (spG p v).toInt - (spL p v).toInt := fb_subI (by omega) (by omega)
    have e2 : (spG p v - spL p v + 1).toInt = (spG p v).toInt - (spL p v).toInt + 1 := by
      rw [fb_addI, e1]
      · rfl
      · rw [e1]; show _ ≤ (spG p v).toInt - (spL p v).toInt + 1; omega
      · rw [e1]; show (spG p v).toInt - (spL p v).toInt + 1 < _; omega
    rw [e2]
    exact ⟨by omega, by omega, fun _ => by omega, fun _ => hk⟩
  · rw [if_neg hk]
    exact ⟨by decide, by decide, fun z => absurd z hk, fun z => absurd z (by decide)⟩
theorem sumL_rng {p : Lp} (hg : 1 ≤ p.2.2.2.1.toInt) : ∀ s, s ≤ 41 → 0 ≤ (sumL p s).toInt ∧ (sumL p s).toInt ≤ s * 4001 ∧ (anyS p s = true ↔ 0 < (sumL p s).toInt)
  | 0, _ => by
    have e : (sumL p 0).toInt = 0 := rfl
    rw [e]
    refine ⟨by omega, by omega, fun z => ?_, fun z => absurd z (by omega)⟩
    simp [anyS] at z
  | s + 1, hs => by
    obtain ⟨h1, h2, h3⟩ := sumL_rng hg s (by omega)
    obtain ⟨c1, c2, c3⟩ := cnI_rng (p := p) (v := vs s) hg
    have ew : (cnI p (vs s)).toInt64.toInt = (cnI p (vs s)).toInt := Int32.toInt_toInt64 _
    have e : (sumL p (s + 1)).toInt = (sumL p s).toInt + (cnI p (vs s)).toInt := by
      rw [sumL, fb_addL, ew]
      · rw [ew]; omega
      · rw [ew]; omega
    rw [e]
    refine ⟨by omega, by omega, ?_⟩
    rw [anyS, Bool.or_eq_true, h3, c3]
    omega
/-- a heap is not empty, as the reference sees it -/
def msnd (M : g_M) (r : Nat → Nat) (l : Nat) : Bool := anyS (mLp M 0 r l) 41 && anyS (mLp M 1 r l) 41
theorem sum_any {p : Lp} (hg : 1 ≤ p.2.2.2.1.toInt) : 0 < sumL p 41 ↔ anyS p 41 = true := by
  rw [j_lt, show (0 : Int64).toInt = 0 from rfl]
  exact (sumL_rng hg 41 (by decide)).2.2.symm
set_option maxHeartbeats 4000000 in
set_option maxRecDepth 100000 in
theorem t_X11_isHeap (G : g_G) (M : g_M) (L : g_L) {l : Nat} {r : Nat → Nat} (hk : sok M l r) (hg : 1 ≤ (M 149 3).toInt) (a b : Int32) : mt G yX11_isHeap (Cond.code yX11_isHeap cX11_isHeap 1 (some .boolean)) 3 [.ref (G.1 + 149)] (mn M a b) L (qI fun v M' L' => L = L' ∧ v = bI (msnd M r l) ∧ ∃ a b, M' = mn M a b) := by
  refine mt_of (by decide) rfl (Nat.le_of_ble_eq_true rfl) [(0, .ref (G.1 + 149))] rfl (fun X hG C hQ => ?_)
  subst hG
  refine wx_aload_n C 0 dX11_isHeap_0 rfl rfl ?_
  refine wx_iconst C 0 dX11_isHeap_1 (by decide) ?_
  refine ca_X11_123 C (rest := []) (t_X11_allLines X.1 M L hk hg a b 0) (by decide) rfl (by decide) rfl rfl (Nat.le_of_ble_eq_true rfl) dX11_isHeap_2 (kL fun r2 M2 L2 q2 => ?_)
  obtain ⟨rfl, rfl, a2, b2, rfl⟩ := q2
  refine wx_lconst C 0 dX11_isHeap_5 (by decide) ?_
  refine wx_lcmp C dX11_isHeap_6 ?_
  refine wx_if_le C 24 dX11_isHeap_7 (by decide) (fun c7 => ?_) (fun c7 => ?_)
  · refine wx_iconst C 0 dX11_isHeap_24 (by decide) ?_
    refine wx_zret C hQ dX11_isHeap_25 (by decide) ?_
    refine ⟨_, rfl, rfl, ?_, _, _, rfl⟩
    unfold msnd
    first
    | (rw [Bool.eq_false_iff.mpr (fun z => absurd ((sum_any (p := mLp M 0 r l) hg).mpr z) (Int64.not_lt.mpr ((lg_cmp_le _ _).mp c7))), Bool.false_and]; rfl)
    | (rw [Bool.eq_false_iff.mpr (fun z => absurd ((sum_any (p := mLp M 1 r l) hg).mpr z) (Int64.not_lt.mpr ((lg_cmp_le _ _).mp c17))), Bool.and_false]; rfl)
  · refine wx_aload_n C 0 dX11_isHeap_10 rfl rfl ?_
    refine wx_iconst C 1 dX11_isHeap_11 (by decide) ?_
    refine ca_X11_123 C (rest := []) (t_X11_allLines X.1 M L hk hg a2 b2 1) (by decide) rfl (by decide) rfl rfl (Nat.le_of_ble_eq_true rfl) dX11_isHeap_12 (kL fun r12 M12 L12 q12 => ?_)
    obtain ⟨rfl, rfl, a12, b12, rfl⟩ := q12
    refine wx_lconst C 0 dX11_isHeap_15 (by decide) ?_
    refine wx_lcmp C dX11_isHeap_16 ?_
    refine wx_if_le C 24 dX11_isHeap_17 (by decide) (fun c17 => ?_) (fun c17 => ?_)
    · refine wx_iconst C 0 dX11_isHeap_24 (by decide) ?_
      refine wx_zret C hQ dX11_isHeap_25 (by decide) ?_
      refine ⟨_, rfl, rfl, ?_, _, _, rfl⟩
      unfold msnd
      first
      | (rw [Bool.eq_false_iff.mpr (fun z => absurd ((sum_any (p := mLp M 0 r l) hg).mpr z) (Int64.not_lt.mpr ((lg_cmp_le _ _).mp c7))), Bool.false_and]; rfl)
      | (rw [Bool.eq_false_iff.mpr (fun z => absurd ((sum_any (p := mLp M 1 r l) hg).mpr z) (Int64.not_lt.mpr ((lg_cmp_le _ _).mp c17))), Bool.and_false]; rfl)
    · refine wx_iconst C 1 dX11_isHeap_20 (by decide) ?_
      refine wx_goto C 25 dX11_isHeap_21 (by decide) ?_
      refine wx_zret C hQ dX11_isHeap_25 (by decide) ?_
      refine ⟨_, rfl, rfl, ?_, _, _, rfl⟩
      unfold msnd
      rw [(sum_any (p := mLp M 0 r l) hg).mp (Int64.not_le.mp (fun z => c7 ((lg_cmp_le _ _).mpr z))), (sum_any (p := mLp M 1 r l) hg).mp (Int64.not_le.mp (fun z => c17 ((lg_cmp_le _ _).mpr z)))]
      rfl
