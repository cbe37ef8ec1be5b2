/-! ===== the reference: dot, pace, net, about, isNear ===== -/
def mdotM (M : g_M) (n : Nat) (h x y w : Int32) : g_M := g_st (g_st (g_st (g_st (g_st (g_st (g_st M 150 n h) 151 n x) 152 n y) 153 n w) 154 n (-1)) 149 0 (nI (n + 1))) 149 26 0
theorem sf_ne {P : Nat → Bool} : ∀ {n i : Nat}, i + n < 2 ^ 31 → ∀ {j : Nat}, i ≤ j → j < i + n → P j = true → ¬ sf P i n = -1
  | 0, i, _, j, h1, h2, _ => by omega
  | n + 1, i, hs, j, h1, h2, h3 => by
    rw [sf]
    split
    · intro z
      have := congrArg Int32.toInt z
      rw [nI_toInt (by omega)] at this
      have e : (-1 : Int32).toInt = -1 := rfl
      rw [e] at this
      omega
    · rename_i hp
      have : i ≠ j := fun z => hp (by rw [z]; exact h3)
      exact sf_ne (by omega) (by omega) (by omega) h3
theorem nI_m1 {i : Nat} (h : i < 2 ^ 31) : ¬ nI i = -1 := by
  intro z
  have := congrArg Int32.toInt z
  rw [nI_toInt h, show (-1 : Int32).toInt = -1 from rfl] at this
  omega
set_option maxHeartbeats 4000000 in
set_option maxRecDepth 100000 in
theorem lp_X11_dot {X : g_X} {Qr : Option Value → g_M → g_L → Prop} (C : Cx X cX11_dot 6 RX11 (some .int) 1) (hQ : Rx X Qr) {M : g_M} {L : g_L} {h x y w : Int32} {n0 : Nat} (hb : M 149 0 = nI n0) (h60 : n0 ≤ 60) : ∀ (n i : Nat), i ≤ n0 → n0 < i + n → (∀ v, v = sf (fun e => decide (M 150 e = h ∧ M 151 e = x ∧ M 152 e = y)) i (n0 - i) → ¬ v = -1 → Qr (some (.int v)) M L) → (n0 = 60 → sf (fun e => decide (M 150 e = h ∧ M 151 e = x ∧ M 152 e = y)) i (n0 - i) = -1 → Qr (some (.int (-4))) M L) → (n0 < 60 → sf (fun e => decide (M 150 e = h ∧ M 151 e = x ∧ M 152 e = y)) i (n0 - i) = -1 → Qr (some (.int (nI n0))) (mdotM M n0 h x y w) L) → wx X M L 54 [(0, .ref (X.1.1 + 149)), (1, .int h), (2, .int x), (3, .int y), (4, .int w), (5, .int (nI i))] [] := by
  intro n
  induction n with
  | zero =>
    intro i h1 h2
    exact absurd h2 (by omega)
  | succ n ih =>
    intro i hi0 hin hp hfl hnw
    refine wx_iload C 5 dX11_dot_54 rfl ?_
    refine wx_aload_n C 0 dX11_dot_56 rfl rfl ?_
    refine gf_X11_75 C dX11_dot_57 ?_
    refine wx_icmp_ge C 105 dX11_dot_60 (by decide) (fun c60 => ?_) (fun c60 => ?_)
    · have hib : i = n0 := by
        rw [hb] at c60
        exact Nat.le_antisymm hi0 ((nI_leI (by omega) (by omega)).mp c60)
      have e0 : sf (fun e => decide (M 150 e = h ∧ M 151 e = x ∧ M 152 e = y)) i (n0 - i) = -1 := by rw [hib, Nat.sub_self]; rfl
      refine wx_aload_n C 0 dX11_dot_105 rfl rfl ?_
      refine gf_X11_75 C dX11_dot_106 ?_
      refine wx_bipush C 60 dX11_dot_109 (by decide) ?_
      refine wx_icmp_ne C 117 dX11_dot_111 (by decide) (fun c111 => ?_) (fun c111 => ?_)
      · have hlt : n0 < 60 := by
          have : n0 ≠ 60 := fun z => c111 (by rw [hb, z]; rfl)
          omega
        refine wx_aload_n C 0 dX11_dot_117 rfl rfl ?_
        refine gf_X11_19 C dX11_dot_118 ?_
        refine wx_aload_n C 0 dX11_dot_121 rfl rfl ?_
        refine gf_X11_75 C dX11_dot_122 ?_
        refine wx_iload_n C 1 dX11_dot_125 rfl rfl ?_
        refine wx_iast C 150 n0 (by decide) (fun _ _ => rfl) (by decide) dX11_dot_126 hb hlt ?_
        refine wx_aload_n C 0 dX11_dot_127 rfl rfl ?_
        refine gf_X11_23 C dX11_dot_128 ?_
        refine wx_aload_n C 0 dX11_dot_131 rfl rfl ?_
        refine gf_X11_75 C dX11_dot_132 ?_
        refine wx_iload_n C 2 dX11_dot_135 rfl rfl ?_
        refine wx_iast C 151 n0 (by decide) (fun _ _ => rfl) (by decide) dX11_dot_136 (by rw [g_st_ap, if_neg (by omega)]; exact hb) hlt ?_
        refine wx_aload_n C 0 dX11_dot_137 rfl rfl ?_
        refine gf_X11_26 C dX11_dot_138 ?_
        refine wx_aload_n C 0 dX11_dot_141 rfl rfl ?_
        refine gf_X11_75 C dX11_dot_142 ?_
        refine wx_iload_n C 3 dX11_dot_145 rfl rfl ?_
        refine wx_iast C 152 n0 (by decide) (fun _ _ => rfl) (by decide) dX11_dot_146 (by rw [g_st_ap, if_neg (by omega), g_st_ap, if_neg (by omega)]; exact hb) hlt ?_
        refine wx_aload_n C 0 dX11_dot_147 rfl rfl ?_
        refine gf_X11_29 C dX11_dot_148 ?_
        refine wx_aload_n C 0 dX11_dot_151 rfl rfl ?_
        refine gf_X11_75 C dX11_dot_152 ?_
        refine wx_iload C 4 dX11_dot_155 rfl ?_
        refine wx_iast C 153 n0 (by decide) (fun _ _ => rfl) (by decide) dX11_dot_157 (by rw [g_st_ap, if_neg (by omega), g_st_ap, if_neg (by omega), g_st_ap, if_neg (by omega)]; exact hb) hlt ?_
        refine wx_aload_n C 0 dX11_dot_158 rfl rfl ?_
        refine gf_X11_32 C dX11_dot_159 ?_
        refine wx_aload_n C 0 dX11_dot_162 rfl rfl ?_
        refine gf_X11_75 C dX11_dot_163 ?_
        refine wx_iconst C (-1) dX11_dot_166 (by decide) ?_
        refine wx_iast C 154 n0 (by decide) (fun _ _ => rfl) (by decide) dX11_dot_167 (by rw [g_st_ap, if_neg (by omega), g_st_ap, if_neg (by omega), g_st_ap, if_neg (by omega), g_st_ap, if_neg (by omega)]; exact hb) hlt ?_
        refine wx_aload_n C 0 dX11_dot_168 rfl rfl ?_
        refine wx_dup C dX11_dot_169 rfl ?_
        refine gf_X11_75 C dX11_dot_170 ?_
        refine wx_iconst C 1 dX11_dot_173 (by decide) ?_
        refine wx_iadd C dX11_dot_174 ?_
        refine pf_X11_75 C dX11_dot_175 ?_
        refine wx_aload_n C 0 dX11_dot_178 rfl rfl ?_
        refine wx_iconst C 0 dX11_dot_179 (by decide) ?_
        refine pf_X11_85 C dX11_dot_180 ?_
        refine wx_aload_n C 0 dX11_dot_183 rfl rfl ?_
        refine gf_X11_75 C dX11_dot_184 ?_
        refine wx_iconst C 1 dX11_dot_187 (by decide) ?_
        refine wx_isub C dX11_dot_188 ?_
        refine wx_iret C hQ dX11_dot_189 ?_
        have hz := hnw hlt e0
        have e1 : g_st (g_st (g_st (g_st (g_st M 150 n0 h) 151 n0 x) 152 n0 y) 153 n0 w) 154 n0 (-1) 149 0 = nI n0 := by rw [g_st_ap, if_neg (by omega), g_st_ap, if_neg (by omega), g_st_ap, if_neg (by omega), g_st_ap, if_neg (by omega), g_st_ap, if_neg (by omega)]; exact hb
        rw [e1, nI_1]
        have e2 : ∀ N : g_M, g_st (g_st N 149 0 (nI (n0 + 1))) 149 26 0 149 0 - 1 = nI n0 := fun N => by rw [g_st_ap, if_neg (by decide), g_st_ap, if_pos ⟨rfl, rfl⟩]; exact nI_pred n0
        rw [e2]
        exact hz
      · refine wx_bipush C (-4) dX11_dot_114 (by decide) ?_
        refine wx_iret C hQ dX11_dot_116 ?_
        exact hfl (nI_inj (by omega) (by decide) (hb.symm.trans c111)) e0
    · have hi : i < n0 := by
        rw [hb] at c60
        exact Nat.lt_of_not_le (fun h => c60 ((nI_leI (by omega) (by omega)).mpr h))
      refine wx_aload_n C 0 dX11_dot_63 rfl rfl ?_
      refine gf_X11_19 C dX11_dot_64 ?_
      refine wx_iload C 5 dX11_dot_67 rfl ?_
      refine wx_iald C 150 i (by decide) (fun _ _ => rfl) (by decide) dX11_dot_69 rfl (by omega) ?_
      refine wx_iload_n C 1 dX11_dot_70 rfl rfl ?_
      refine wx_icmp_ne C 99 dX11_dot_71 (by decide) (fun c71 => ?_) (fun c71 => ?_)
      · refine wx_iinc C (v := (nI (i + 1))) 5 [1, 2, 3, 4, 5, 0] [(0, .ref (X.1.1 + 149)), (1, .int h), (2, .int x), (3, .int y), (4, .int w), (5, .int (nI (i + 1)))] dX11_dot_99 rfl (nI_1 _) (by decide) rfl ?_
        refine wx_goto C 54 dX11_dot_102 (by decide) ?_
        have hn : decide (M 150 i = h ∧ M 151 i = x ∧ M 152 i = y) = false := decide_eq_false (fun z => by first | exact c71 z.1 | exact c82 z.2.1 | exact c93 z.2.2)
        have ee : sf (fun e => decide (M 150 e = h ∧ M 151 e = x ∧ M 152 e = y)) i (n0 - i) = sf (fun e => decide (M 150 e = h ∧ M 151 e = x ∧ M 152 e = y)) (i + 1) (n0 - (i + 1)) := by
          rw [show n0 - i = (n0 - (i + 1)) + 1 by omega, sf, if_neg (by rw [hn]; decide)]
        rw [ee] at hp hfl hnw
        exact ih (i + 1) (by omega) (by omega) hp hfl hnw
      · refine wx_aload_n C 0 dX11_dot_74 rfl rfl ?_
        refine gf_X11_23 C dX11_dot_75 ?_
        refine wx_iload C 5 dX11_dot_78 rfl ?_
        refine wx_iald C 151 i (by decide) (fun _ _ => rfl) (by decide) dX11_dot_80 rfl (by omega) ?_
        refine wx_iload_n C 2 dX11_dot_81 rfl rfl ?_
        refine wx_icmp_ne C 99 dX11_dot_82 (by decide) (fun c82 => ?_) (fun c82 => ?_)
        · refine wx_iinc C (v := (nI (i + 1))) 5 [1, 2, 3, 4, 5, 0] [(0, .ref (X.1.1 + 149)), (1, .int h), (2, .int x), (3, .int y), (4, .int w), (5, .int (nI (i + 1)))] dX11_dot_99 rfl (nI_1 _) (by decide) rfl ?_
          refine wx_goto C 54 dX11_dot_102 (by decide) ?_
          have hn : decide (M 150 i = h ∧ M 151 i = x ∧ M 152 i = y) = false := decide_eq_false (fun z => by first | exact c71 z.1 | exact c82 z.2.1 | exact c93 z.2.2)
          have ee : sf (fun e => decide (M 150 e = h ∧ M 151 e = x ∧ M 152 e = y)) i (n0 - i) = sf (fun e => decide (M 150 e = h ∧ M 151 e = x ∧ M 152 e = y)) (i + 1) (n0 - (i + 1)) := by
            rw [show n0 - i = (n0 - (i + 1)) + 1 by omega, sf, if_neg (by rw [hn]; decide)]
          rw [ee] at hp hfl hnw
          exact ih (i + 1) (by omega) (by omega) hp hfl hnw
        · refine wx_aload_n C 0 dX11_dot_85 rfl rfl ?_
          refine gf_X11_26 C dX11_dot_86 ?_
          refine wx_iload C 5 dX11_dot_89 rfl ?_
          refine wx_iald C 152 i (by decide) (fun _ _ => rfl) (by decide) dX11_dot_91 rfl (by omega) ?_
          refine wx_iload_n C 3 dX11_dot_92 rfl rfl ?_
          refine wx_icmp_ne C 99 dX11_dot_93 (by decide) (fun c93 => ?_) (fun c93 => ?_)
          · refine wx_iinc C (v := (nI (i + 1))) 5 [1, 2, 3, 4, 5, 0] [(0, .ref (X.1.1 + 149)), (1, .int h), (2, .int x), (3, .int y), (4, .int w), (5, .int (nI (i + 1)))] dX11_dot_99 rfl (nI_1 _) (by decide) rfl ?_
            refine wx_goto C 54 dX11_dot_102 (by decide) ?_
            have hn : decide (M 150 i = h ∧ M 151 i = x ∧ M 152 i = y) = false := decide_eq_false (fun z => by first | exact c71 z.1 | exact c82 z.2.1 | exact c93 z.2.2)
            have ee : sf (fun e => decide (M 150 e = h ∧ M 151 e = x ∧ M 152 e = y)) i (n0 - i) = sf (fun e => decide (M 150 e = h ∧ M 151 e = x ∧ M 152 e = y)) (i + 1) (n0 - (i + 1)) := by
              rw [show n0 - i = (n0 - (i + 1)) + 1 by omega, sf, if_neg (by rw [hn]; decide)]
            rw [ee] at hp hfl hnw
            exact ih (i + 1) (by omega) (by omega) hp hfl hnw
          · refine wx_iload C 5 dX11_dot_96 rfl ?_
            refine wx_iret C hQ dX11_dot_98 ?_
            refine hp _ ?_ (nI_m1 (by omega))
            rw [show n0 - i = (n0 - (i + 1)) + 1 by omega, sf, if_pos (decide_eq_true ⟨c71, c82, c93⟩)]
set_option maxHeartbeats 4000000 in
set_option maxRecDepth 100000 in
theorem t_X11_dot (G : g_G) (M : g_M) (L : g_L) (h x y w : Int32) {n0 : Nat} (hb : M 149 0 = nI n0) (h60 : n0 ≤ 60) : mt G yX11_dot (Cond.code yX11_dot cX11_dot 6 (some .int)) 1 [.ref (G.1 + 149), .int h, .int x, .int y, .int w] M L (qI fun v M' L' => L = L' ∧ ((dOK h x y w = false ∧ v = -2 ∧ M = M') ∨ (dOK h x y w = true ∧ ((¬ sf (fun e => decide (M 150 e = h ∧ M 151 e = x ∧ M 152 e = y)) 0 n0 = -1 ∧ v = sf (fun e => decide (M 150 e = h ∧ M 151 e = x ∧ M 152 e = y)) 0 n0 ∧ M = M') ∨ (sf (fun e => decide (M 150 e = h ∧ M 151 e = x ∧ M 152 e = y)) 0 n0 = -1 ∧ ((n0 = 60 ∧ v = -4 ∧ M = M') ∨ (n0 < 60 ∧ v = nI n0 ∧ M' = mdotM M n0 h x y w))))))) := by
  refine mt_of (by decide) rfl (Nat.le_of_ble_eq_true rfl) [(0, .ref (G.1 + 149)), (1, .int h), (2, .int x), (3, .int y), (4, .int w)] rfl (fun X hG C hQ => ?_)
  subst hG
  refine wx_iload_n C 1 dX11_dot_0 rfl rfl ?_
  refine wx_iconst C 0 dX11_dot_1 (by decide) ?_
  refine wx_sipush C 400 dX11_dot_2 (by decide) ?_
  refine ca_X11_78 C (rest := []) (t_X11_isIn X.1 M L h 0 400) (by decide) rfl rfl (Nat.le_of_ble_eq_true rfl) dX11_dot_5 (kI fun r5 M5 L5 q5 => ?_)
  obtain ⟨rfl, rfl, rfl⟩ := q5
  refine wx_if_eq C 48 dX11_dot_8 (by decide) (fun c8 => ?_) (fun c8 => ?_)
  · refine wx_bipush C (-2) dX11_dot_48 (by decide) ?_
    refine wx_iret C hQ dX11_dot_50 ?_
    refine ⟨_, rfl, rfl, Or.inl ⟨?_, rfl, rfl⟩⟩
    unfold dOK
    first
    | rw [bI_0.mp c8, Bool.false_and]
    | rw [bI_0.mp c21, Bool.false_and, Bool.and_false]
    | rw [bI_0.mp c34, Bool.false_and, Bool.and_false, Bool.and_false]
    | rw [bI_0.mp c45, Bool.and_false, Bool.and_false, Bool.and_false]
  · refine wx_iload_n C 2 dX11_dot_11 rfl rfl ?_
    refine wx_sipush C (-9000) dX11_dot_12 (by decide) ?_
    refine wx_sipush C 9000 dX11_dot_15 (by decide) ?_
    refine ca_X11_78 C (rest := []) (t_X11_isIn X.1 M L x (-9000) 9000) (by decide) rfl rfl (Nat.le_of_ble_eq_true rfl) dX11_dot_18 (kI fun r18 M18 L18 q18 => ?_)
    obtain ⟨rfl, rfl, rfl⟩ := q18
    refine wx_if_eq C 48 dX11_dot_21 (by decide) (fun c21 => ?_) (fun c21 => ?_)
    · refine wx_bipush C (-2) dX11_dot_48 (by decide) ?_
      refine wx_iret C hQ dX11_dot_50 ?_
      refine ⟨_, rfl, rfl, Or.inl ⟨?_, rfl, rfl⟩⟩
      unfold dOK
      first
      | rw [bI_0.mp c8, Bool.false_and]
      | rw [bI_0.mp c21, Bool.false_and, Bool.and_false]
      | rw [bI_0.mp c34, Bool.false_and, Bool.and_false, Bool.and_false]
      | rw [bI_0.mp c45, Bool.and_false, Bool.and_false, Bool.and_false]
    · refine wx_iload_n C 3 dX11_dot_24 rfl rfl ?_
      refine wx_sipush C (-9000) dX11_dot_25 (by decide) ?_
      refine wx_sipush C 9000 dX11_dot_28 (by decide) ?_
      refine ca_X11_78 C (rest := []) (t_X11_isIn X.1 M L y (-9000) 9000) (by decide) rfl rfl (Nat.le_of_ble_eq_true rfl) dX11_dot_31 (kI fun r31 M31 L31 q31 => ?_)
      obtain ⟨rfl, rfl, rfl⟩ := q31
      refine wx_if_eq C 48 dX11_dot_34 (by decide) (fun c34 => ?_) (fun c34 => ?_)
      · refine wx_bipush C (-2) dX11_dot_48 (by decide) ?_
        refine wx_iret C hQ dX11_dot_50 ?_
        refine ⟨_, rfl, rfl, Or.inl ⟨?_, rfl, rfl⟩⟩
        unfold dOK
        first
        | rw [bI_0.mp c8, Bool.false_and]
        | rw [bI_0.mp c21, Bool.false_and, Bool.and_false]
        | rw [bI_0.mp c34, Bool.false_and, Bool.and_false, Bool.and_false]
        | rw [bI_0.mp c45, Bool.and_false, Bool.and_false, Bool.and_false]
      · refine wx_iload C 4 dX11_dot_37 rfl ?_
        refine wx_iconst C 0 dX11_dot_39 (by decide) ?_
        refine wx_bipush C 9 dX11_dot_40 (by decide) ?_
        refine ca_X11_78 C (rest := []) (t_X11_isIn X.1 M L w 0 9) (by decide) rfl rfl (Nat.le_of_ble_eq_true rfl) dX11_dot_42 (kI fun r42 M42 L42 q42 => ?_)
        obtain ⟨rfl, rfl, rfl⟩ := q42
        refine wx_if_ne C 51 dX11_dot_45 (by decide) (fun c45 => ?_) (fun c45 => ?_)
        · have hok : dOK h x y w = true := by
            unfold dOK
            rw [bI_n0.mp c8, bI_n0.mp c21, bI_n0.mp c34, bI_n0.mp c45]
            rfl
          refine wx_iconst C 0 dX11_dot_51 (by decide) ?_
          refine wx_istore C [1, 2, 3, 4, 5, 0] [(0, .ref (X.1.1 + 149)), (1, .int h), (2, .int x), (3, .int y), (4, .int w), (5, .int 0)] dX11_dot_52 (by decide) rfl ?_
          exact lp_X11_dot C hQ hb h60 (n0 + 1) 0 (by omega) (by omega) (fun v e z => ⟨v, rfl, rfl, Or.inr ⟨hok, Or.inl ⟨by rw [Nat.sub_zero] at e; rw [← e]; exact z, e, rfl⟩⟩⟩) (fun e z => ⟨_, rfl, rfl, Or.inr ⟨hok, Or.inr ⟨z, Or.inl ⟨e, rfl, rfl⟩⟩⟩⟩) (fun e z => ⟨_, rfl, rfl, Or.inr ⟨hok, Or.inr ⟨z, Or.inr ⟨e, rfl, rfl⟩⟩⟩⟩)
        · refine wx_bipush C (-2) dX11_dot_48 (by decide) ?_
          refine wx_iret C hQ dX11_dot_50 ?_
          refine ⟨_, rfl, rfl, Or.inl ⟨?_, rfl, rfl⟩⟩
          unfold dOK
          first
          | rw [bI_0.mp c8, Bool.false_and]
          | rw [bI_0.mp c21, Bool.false_and, Bool.and_false]
          | rw [bI_0.mp c34, Bool.false_and, Bool.and_false, Bool.and_false]
          | rw [bI_0.mp c45, Bool.and_false, Bool.and_false, Bool.and_false]
set_option maxHeartbeats 4000000 in
set_option maxRecDepth 100000 in
theorem t_X11_pace (G : g_G) (M : g_M) (L : g_L) (p : Int32) : mt G yX11_pace (Cond.code yX11_pace cX11_pace 3 (some .int)) 1 [.ref (G.1 + 149), .int p] M L (qI fun v M' L' => L = L' ∧ ((inW p 1 20 = false ∧ v = -2 ∧ M = M') ∨ (inW p 1 20 = true ∧ v = M 149 2 ∧ M' = g_st M 149 2 p))) := by
  refine mt_of (by decide) rfl (Nat.le_of_ble_eq_true rfl) [(0, .ref (G.1 + 149)), (1, .int p)] rfl (fun X hG C hQ => ?_)
  subst hG
  refine wx_iload_n C 1 dX11_pace_0 rfl rfl ?_
  refine wx_iconst C 1 dX11_pace_1 (by decide) ?_
  refine wx_bipush C 20 dX11_pace_2 (by decide) ?_
  refine ca_X11_78 C (rest := []) (t_X11_isIn X.1 M L p 1 20) (by decide) rfl rfl (Nat.le_of_ble_eq_true rfl) dX11_pace_4 (kI fun r4 M4 L4 q4 => ?_)
  obtain ⟨rfl, rfl, rfl⟩ := q4
  refine wx_if_ne C 13 dX11_pace_7 (by decide) (fun c7 => ?_) (fun c7 => ?_)
  · refine wx_aload_n C 0 dX11_pace_13 rfl rfl ?_
    refine gf_X11_7 C dX11_pace_14 ?_
    refine wx_istore_n C [1, 2, 0] [(0, .ref (X.1.1 + 149)), (1, .int p), (2, .int (M 149 2))] dX11_pace_17 rfl (by decide) rfl ?_
    refine wx_aload_n C 0 dX11_pace_18 rfl rfl ?_
    refine wx_iload_n C 1 dX11_pace_19 rfl rfl ?_
    refine pf_X11_7 C dX11_pace_20 ?_
    refine wx_iload_n C 2 dX11_pace_23 rfl rfl ?_
    refine wx_iret C hQ dX11_pace_24 ?_
    exact ⟨_, rfl, rfl, Or.inr ⟨bI_n0.mp c7, rfl, rfl⟩⟩
  · refine wx_bipush C (-2) dX11_pace_10 (by decide) ?_
    refine wx_iret C hQ dX11_pace_12 ?_
    exact ⟨_, rfl, rfl, Or.inl ⟨bI_0.mp c7, rfl, rfl⟩⟩
set_option maxHeartbeats 4000000 in
set_option maxRecDepth 100000 in
theorem t_X11_net (G : g_G) (M : g_M) (L : g_L) (g e : Int32) : mt G yX11_net (Cond.code yX11_net cX11_net 3 (some .int)) 1 [.ref (G.1 + 149), .int g, .int e] M L (qI fun v M' L' => L = L' ∧ (((inW g 1 50 && inW e 0 200) = false ∧ v = -2 ∧ M = M') ∨ (inW g 1 50 = true ∧ inW e 0 200 = true ∧ v = 0 ∧ M' = g_st (g_st M 149 3 g) 149 4 e))) := by
  refine mt_of (by decide) rfl (Nat.le_of_ble_eq_true rfl) [(0, .ref (G.1 + 149)), (1, .int g), (2, .int e)] rfl (fun X hG C hQ => ?_)
  subst hG
  refine wx_iload_n C 1 dX11_net_0 rfl rfl ?_
  refine wx_iconst C 1 dX11_net_1 (by decide) ?_
  refine wx_bipush C 50 dX11_net_2 (by decide) ?_
  refine ca_X11_78 C (rest := []) (t_X11_isIn X.1 M L g 1 50) (by decide) rfl rfl (Nat.le_of_ble_eq_true rfl) dX11_net_4 (kI fun r4 M4 L4 q4 => ?_)
  obtain ⟨rfl, rfl, rfl⟩ := q4
  refine wx_if_eq C 21 dX11_net_7 (by decide) (fun c7 => ?_) (fun c7 => ?_)
  · refine wx_bipush C (-2) dX11_net_21 (by decide) ?_
    refine wx_iret C hQ dX11_net_23 ?_
    refine ⟨_, rfl, rfl, Or.inl ⟨?_, rfl, rfl⟩⟩
    first
    | rw [bI_0.mp c7, Bool.false_and]
    | rw [bI_0.mp c18, Bool.and_false]
  · refine wx_iload_n C 2 dX11_net_10 rfl rfl ?_
    refine wx_iconst C 0 dX11_net_11 (by decide) ?_
    refine wx_sipush C 200 dX11_net_12 (by decide) ?_
    refine ca_X11_78 C (rest := []) (t_X11_isIn X.1 M L e 0 200) (by decide) rfl rfl (Nat.le_of_ble_eq_true rfl) dX11_net_15 (kI fun r15 M15 L15 q15 => ?_)
    obtain ⟨rfl, rfl, rfl⟩ := q15
    refine wx_if_ne C 24 dX11_net_18 (by decide) (fun c18 => ?_) (fun c18 => ?_)
    · refine wx_aload_n C 0 dX11_net_24 rfl rfl ?_
      refine wx_iload_n C 1 dX11_net_25 rfl rfl ?_
      refine pf_X11_13 C dX11_net_26 ?_
      refine wx_aload_n C 0 dX11_net_29 rfl rfl ?_
      refine wx_iload_n C 2 dX11_net_30 rfl rfl ?_
      refine pf_X11_16 C dX11_net_31 ?_
      refine wx_iconst C 0 dX11_net_34 (by decide) ?_
      refine wx_iret C hQ dX11_net_35 ?_
      exact ⟨_, rfl, rfl, Or.inr ⟨bI_n0.mp c7, bI_n0.mp c18, rfl, rfl⟩⟩
    · refine wx_bipush C (-2) dX11_net_21 (by decide) ?_
      refine wx_iret C hQ dX11_net_23 ?_
      refine ⟨_, rfl, rfl, Or.inl ⟨?_, rfl, rfl⟩⟩
      first
      | rw [bI_0.mp c7, Bool.false_and]
      | rw [bI_0.mp c18, Bool.and_false]
set_option maxHeartbeats 4000000 in
set_option maxRecDepth 100000 in
theorem t_X11_about (G : g_G) (M : g_M) (L : g_L) (d0 k : Int32) {n : Nat} (hn : M 149 0 = nI n) (h60 : n ≤ 60) : mt G yX11_about (Cond.code yX11_about cX11_about 3 (some .int)) 2 [.ref (G.1 + 149), .int d0, .int k] M L (qI fun v M' L' => v = abV (M 150) (M 151) (M 152) (M 153) (M 154) n d0 k ∧ M = M' ∧ L = L') := by
  refine mt_of (by decide) rfl (Nat.le_of_ble_eq_true rfl) [(0, .ref (G.1 + 149)), (1, .int d0), (2, .int k)] rfl (fun X hG C hQ => ?_)
  subst hG
  refine wx_aload_n C 0 dX11_about_0 rfl rfl ?_
  refine wx_iload_n C 1 dX11_about_1 rfl rfl ?_
  refine ca_X11_88 C (rest := []) (t_X11_isDot X.1 M L d0 hn h60) (by decide) rfl (by decide) rfl rfl (Nat.le_of_ble_eq_true rfl) dX11_about_2 (kI fun r2 M2 L2 q2 => ?_)
  obtain ⟨rfl, rfl, rfl⟩ := q2
  refine wx_if_ne C 10 dX11_about_5 (by decide) (fun c5 => ?_) (fun c5 => ?_)
  · have hh0 := bI_n0.mp c5
    obtain ⟨e, he, rfl⟩ := dHas_t (by omega) hh0
    have hh : 0 ≤ nI e ∧ nI e < nI n := of_decide_eq_true hh0
    have eV : ∀ v, abV (M 150) (M 151) (M 152) (M 153) (M 154) n (nI e) v = abS (M 150) (M 151) (M 152) (M 153) (M 154) e v := fun v => by unfold abV; rw [if_pos hh, nI_clamp (by omega)]
    refine wx_iload_n C 2 dX11_about_10 rfl rfl ?_
    by_cases s11 : k = 0 ∨ k = 1 ∨ k = 2 ∨ k = 3 ∨ k = 4 ∨ k = 5
    · rcases s11 with s11 | s11 | s11 | s11 | s11 | s11
      · refine wx_tin C 48 dX11_about_11 (by rw [s11]; decide) (by rw [s11]; decide) (by rw [s11]; rfl) (by decide) ?_
        refine wx_aload_n C 0 dX11_about_48 rfl rfl ?_
        refine gf_X11_19 C dX11_about_49 ?_
        refine wx_iload_n C 1 dX11_about_52 rfl rfl ?_
        refine wx_iald C 150 e (by decide) (fun _ _ => rfl) (by decide) dX11_about_53 rfl (by omega) ?_
        refine wx_iret C hQ dX11_about_54 ?_
        refine ⟨_, rfl, ?_, rfl, rfl⟩
        rw [eV]
        unfold abS
        rw [s11]
        rfl
      · refine wx_tin C 55 dX11_about_11 (by rw [s11]; decide) (by rw [s11]; decide) (by rw [s11]; rfl) (by decide) ?_
        refine wx_aload_n C 0 dX11_about_55 rfl rfl ?_
        refine gf_X11_23 C dX11_about_56 ?_
        refine wx_iload_n C 1 dX11_about_59 rfl rfl ?_
        refine wx_iald C 151 e (by decide) (fun _ _ => rfl) (by decide) dX11_about_60 rfl (by omega) ?_
        refine wx_iret C hQ dX11_about_61 ?_
        refine ⟨_, rfl, ?_, rfl, rfl⟩
        rw [eV]
        unfold abS
        rw [s11]
        rfl
      · refine wx_tin C 62 dX11_about_11 (by rw [s11]; decide) (by rw [s11]; decide) (by rw [s11]; rfl) (by decide) ?_
        refine wx_aload_n C 0 dX11_about_62 rfl rfl ?_
        refine gf_X11_26 C dX11_about_63 ?_
        refine wx_iload_n C 1 dX11_about_66 rfl rfl ?_
        refine wx_iald C 152 e (by decide) (fun _ _ => rfl) (by decide) dX11_about_67 rfl (by omega) ?_
        refine wx_iret C hQ dX11_about_68 ?_
        refine ⟨_, rfl, ?_, rfl, rfl⟩
        rw [eV]
        unfold abS
        rw [s11]
        rfl
      · refine wx_tin C 69 dX11_about_11 (by rw [s11]; decide) (by rw [s11]; decide) (by rw [s11]; rfl) (by decide) ?_
        refine wx_aload_n C 0 dX11_about_69 rfl rfl ?_
        refine gf_X11_29 C dX11_about_70 ?_
        refine wx_iload_n C 1 dX11_about_73 rfl rfl ?_
        refine wx_iald C 153 e (by decide) (fun _ _ => rfl) (by decide) dX11_about_74 rfl (by omega) ?_
        refine wx_iret C hQ dX11_about_75 ?_
        refine ⟨_, rfl, ?_, rfl, rfl⟩
        rw [eV]
        unfold abS
        rw [s11]
        rfl
      · refine wx_tin C 76 dX11_about_11 (by rw [s11]; decide) (by rw [s11]; decide) (by rw [s11]; rfl) (by decide) ?_
        refine wx_aload_n C 0 dX11_about_76 rfl rfl ?_
        refine wx_iload_n C 1 dX11_about_77 rfl rfl ?_
        refine ca_X11_92 C (rest := []) (t_X11_night X.1 M L (e := e) rfl (by omega)) (by decide) rfl (by decide) rfl rfl (Nat.le_of_ble_eq_true rfl) dX11_about_78 (kI fun r78 M78 L78 q78 => ?_)
        obtain ⟨rfl, rfl, rfl⟩ := q78
        refine wx_iret C hQ dX11_about_81 ?_
        refine ⟨_, rfl, ?_, rfl, rfl⟩
        rw [eV]
        unfold abS
        rw [s11]
        rfl
      · refine wx_tin C 82 dX11_about_11 (by rw [s11]; decide) (by rw [s11]; decide) (by rw [s11]; rfl) (by decide) ?_
        refine wx_aload_n C 0 dX11_about_82 rfl rfl ?_
        refine gf_X11_32 C dX11_about_83 ?_
        refine wx_iload_n C 1 dX11_about_86 rfl rfl ?_
        refine wx_iald C 154 e (by decide) (fun _ _ => rfl) (by decide) dX11_about_87 rfl (by omega) ?_
        refine wx_iret C hQ dX11_about_88 ?_
        refine ⟨_, rfl, ?_, rfl, rfl⟩
        rw [eV]
        unfold abS
        rw [s11]
        rfl
    · refine wx_tout C 89 dX11_about_11 (sw_out6 s11) (by decide) ?_
      refine wx_iconst C (-1) dX11_about_89 (by decide) ?_
      refine wx_iret C hQ dX11_about_90 ?_
      refine ⟨_, rfl, ?_, rfl, rfl⟩
      rw [eV]
      unfold abS
      rw [if_neg (fun z => s11 (Or.inl z)), if_neg (fun z => s11 (Or.inr (Or.inl z))), if_neg (fun z => s11 (Or.inr (Or.inr (Or.inl z)))), if_neg (fun z => s11 (Or.inr (Or.inr (Or.inr (Or.inl z))))), if_neg (fun z => s11 (Or.inr (Or.inr (Or.inr (Or.inr (Or.inl z)))))), if_neg (fun z => s11 (Or.inr (Or.inr (Or.inr (Or.inr (Or.inr z))))))]
  · refine wx_iconst C (-1) dX11_about_8 (by decide) ?_
    refine wx_iret C hQ dX11_about_9 ?_
    refine ⟨_, rfl, ?_, rfl, rfl⟩
    unfold abV
    rw [if_neg (of_decide_eq_false (bI_0.mp c5))]
