/-! ===== NightDots: dot, pace, net, about, bits, bit, pairs, pair ===== -/
def dOK (h x y w : Int32) : Bool := inW h 0 400 && (inW x (-9000) 9000 && (inW y (-9000) 9000 && inW w 0 9))
def dotM (M : g_M) (n : Nat) (h x y w : Int32) : g_M := g_st (g_st (sk_add M n h x y w) 54 2 0) 9 10 0
set_option maxHeartbeats 4000000 in
set_option maxRecDepth 100000 in
theorem t_X10_dot (G : g_G) (M : g_M) (L : g_L) (h x y w : Int32) {n : Nat} (hn : M 1 5 = nI n) (h60 : n ≤ 60) : mt G yX10_dot (Cond.code yX10_dot cX10_dot 7 (some .int)) 1 [.ref (G.1 + 0), .int h, .int x, .int y, .int w] M L (qI fun v M' L' => L = L' ∧ ((dOK h x y w = false ∧ v = -2 ∧ M = M') ∨ (dOK h x y w = true ∧ ((¬ sf (fun e => decide (M 2 e = h ∧ M 3 e = x ∧ M 4 e = y)) 0 n = -1 ∧ v = sf (fun e => decide (M 2 e = h ∧ M 3 e = x ∧ M 4 e = y)) 0 n ∧ M = M') ∨ (sf (fun e => decide (M 2 e = h ∧ M 3 e = x ∧ M 4 e = y)) 0 n = -1 ∧ ((n = 60 ∧ v = -4 ∧ M = M') ∨ (n < 60 ∧ v = nI n ∧ M' = dotM M n h x y w))))))) := by
  refine mt_of (by decide) rfl (Nat.le_of_ble_eq_true rfl) [(0, .ref (G.1 + 0)), (1, .int h), (2, .int x), (3, .int y), (4, .int w)] rfl (fun X hG C hQ => ?_)
  subst hG
  refine wx_iload_n C 1 dX10_dot_0 rfl rfl ?_
  refine wx_iconst C 0 dX10_dot_1 (by decide) ?_
  refine wx_sipush C 400 dX10_dot_2 (by decide) ?_
  refine ca_X10_71 C (rest := []) (t_X10_isWithin X.1 M L h 0 400) (by decide) rfl rfl (Nat.le_of_ble_eq_true rfl) dX10_dot_5 (kI fun r5 M5 L5 q5 => ?_)
  obtain ⟨rfl, rfl, rfl⟩ := q5
  refine wx_if_eq C 48 dX10_dot_8 (by decide) (fun c8 => ?_) (fun c8 => ?_)
  · refine wx_bipush C (-2) dX10_dot_48 (by decide) ?_
    refine wx_iret C hQ dX10_dot_50 ?_
    refine ⟨_, rfl, rfl, Or.inl ⟨?_, rfl, rfl⟩⟩
    unfold dOK
    first
    | rw [bI_0.mp c8, Bool.false_and]
    | rw [bI_0.mp c21, Bool.false_and, Bool.and_false]
    | rw [bI_0.mp c34, Bool.false_and, Bool.and_false, Bool.and_false]
    | rw [bI_0.mp c45, Bool.and_false, Bool.and_false, Bool.and_false]
  · refine wx_iload_n C 2 dX10_dot_11 rfl rfl ?_
    refine wx_sipush C (-9000) dX10_dot_12 (by decide) ?_
    refine wx_sipush C 9000 dX10_dot_15 (by decide) ?_
    refine ca_X10_71 C (rest := []) (t_X10_isWithin X.1 M L x (-9000) 9000) (by decide) rfl rfl (Nat.le_of_ble_eq_true rfl) dX10_dot_18 (kI fun r18 M18 L18 q18 => ?_)
    obtain ⟨rfl, rfl, rfl⟩ := q18
    refine wx_if_eq C 48 dX10_dot_21 (by decide) (fun c21 => ?_) (fun c21 => ?_)
    · refine wx_bipush C (-2) dX10_dot_48 (by decide) ?_
      refine wx_iret C hQ dX10_dot_50 ?_
      refine ⟨_, rfl, rfl, Or.inl ⟨?_, rfl, rfl⟩⟩
      unfold dOK
      first
      | rw [bI_0.mp c8, Bool.false_and]
      | rw [bI_0.mp c21, Bool.false_and, Bool.and_false]
      | rw [bI_0.mp c34, Bool.false_and, Bool.and_false, Bool.and_false]
      | rw [bI_0.mp c45, Bool.and_false, Bool.and_false, Bool.and_false]
    · refine wx_iload_n C 3 dX10_dot_24 rfl rfl ?_
      refine wx_sipush C (-9000) dX10_dot_25 (by decide) ?_
      refine wx_sipush C 9000 dX10_dot_28 (by decide) ?_
      refine ca_X10_71 C (rest := []) (t_X10_isWithin X.1 M L y (-9000) 9000) (by decide) rfl rfl (Nat.le_of_ble_eq_true rfl) dX10_dot_31 (kI fun r31 M31 L31 q31 => ?_)
      obtain ⟨rfl, rfl, rfl⟩ := q31
      refine wx_if_eq C 48 dX10_dot_34 (by decide) (fun c34 => ?_) (fun c34 => ?_)
      · refine wx_bipush C (-2) dX10_dot_48 (by decide) ?_
        refine wx_iret C hQ dX10_dot_50 ?_
        refine ⟨_, rfl, rfl, Or.inl ⟨?_, rfl, rfl⟩⟩
        unfold dOK
        first
        | rw [bI_0.mp c8, Bool.false_and]
        | rw [bI_0.mp c21, Bool.false_and, Bool.and_false]
        | rw [bI_0.mp c34, Bool.false_and, Bool.and_false, Bool.and_false]
        | rw [bI_0.mp c45, Bool.and_false, Bool.and_false, Bool.and_false]
      · refine wx_iload C 4 dX10_dot_37 rfl ?_
        refine wx_iconst C 0 dX10_dot_39 (by decide) ?_
        refine wx_bipush C 9 dX10_dot_40 (by decide) ?_
        refine ca_X10_71 C (rest := []) (t_X10_isWithin X.1 M L w 0 9) (by decide) rfl rfl (Nat.le_of_ble_eq_true rfl) dX10_dot_42 (kI fun r42 M42 L42 q42 => ?_)
        obtain ⟨rfl, rfl, rfl⟩ := q42
        refine wx_if_ne C 51 dX10_dot_45 (by decide) (fun c45 => ?_) (fun c45 => ?_)
        · have hok : dOK h x y w = true := by
            unfold dOK
            rw [bI_n0.mp c8, bI_n0.mp c21, bI_n0.mp c34, bI_n0.mp c45]
            rfl
          refine wx_aload_n C 0 dX10_dot_51 rfl rfl ?_
          refine gf_X10_14 C dX10_dot_52 ?_
          refine wx_iload_n C 1 dX10_dot_55 rfl rfl ?_
          refine wx_iload_n C 2 dX10_dot_56 rfl rfl ?_
          refine wx_iload_n C 3 dX10_dot_57 rfl rfl ?_
          refine ca_X10_75 C (rest := []) (t_X7_find X.1 M L h x y hn h60) (by decide) rfl (by decide) rfl rfl (Nat.le_of_ble_eq_true rfl) dX10_dot_58 (kI fun r58 M58 L58 q58 => ?_)
          obtain ⟨rfl, rfl, rfl⟩ := q58
          refine wx_istore C [1, 2, 3, 4, 5, 0] [(0, .ref (X.1.1 + 0)), (1, .int h), (2, .int x), (3, .int y), (4, .int w), (5, .int (sf (fun e => decide (M 2 e = h ∧ M 3 e = x ∧ M 4 e = y)) 0 n))] dX10_dot_61 (by decide) rfl ?_
          refine wx_iload C 5 dX10_dot_63 rfl ?_
          refine wx_iconst C (-1) dX10_dot_65 (by decide) ?_
          refine wx_icmp_eq C 72 dX10_dot_66 (by decide) (fun c66 => ?_) (fun c66 => ?_)
          · refine wx_aload_n C 0 dX10_dot_72 rfl rfl ?_
            refine gf_X10_14 C dX10_dot_73 ?_
            refine wx_iload_n C 1 dX10_dot_76 rfl rfl ?_
            refine wx_iload_n C 2 dX10_dot_77 rfl rfl ?_
            refine wx_iload_n C 3 dX10_dot_78 rfl rfl ?_
            refine wx_iload C 4 dX10_dot_79 rfl ?_
            refine ca_X10_79 C (rest := []) (t_X7_add X.1 M L h x y w hn h60) (by decide) rfl (by decide) rfl rfl (Nat.le_of_ble_eq_true rfl) dX10_dot_81 (kI fun r81 M81 L81 q81 => ?_)
            obtain ⟨h5, rfl⟩ := q81
            rcases h5 with ⟨e5, rfl, rfl⟩ | ⟨e5, rfl, rfl⟩
            · refine wx_istore C [1, 2, 3, 4, 5, 6, 0] [(0, .ref (X.1.1 + 0)), (1, .int h), (2, .int x), (3, .int y), (4, .int w), (5, .int (sf (fun e => decide (M 2 e = h ∧ M 3 e = x ∧ M 4 e = y)) 0 n)), (6, .int (-4))] dX10_dot_84 (by decide) rfl ?_
              refine wx_iload C 6 dX10_dot_86 rfl ?_
              refine wx_bipush C (-4) dX10_dot_88 (by decide) ?_
              refine wx_icmp_eq C 107 dX10_dot_90 (by decide) (fun c90 => ?_) (fun c90 => absurd c90 (fun z => z rfl))
              refine wx_iload C 6 dX10_dot_107 rfl ?_
              refine wx_iret C hQ dX10_dot_109 ?_
              exact ⟨_, rfl, rfl, Or.inr ⟨hok, Or.inr ⟨c66, Or.inl ⟨e5, rfl, rfl⟩⟩⟩⟩
            · refine wx_istore C [1, 2, 3, 4, 5, 6, 0] [(0, .ref (X.1.1 + 0)), (1, .int h), (2, .int x), (3, .int y), (4, .int w), (5, .int (sf (fun e => decide (M 2 e = h ∧ M 3 e = x ∧ M 4 e = y)) 0 n)), (6, .int (nI n))] dX10_dot_84 (by decide) rfl ?_
              refine wx_iload C 6 dX10_dot_86 rfl ?_
              refine wx_bipush C (-4) dX10_dot_88 (by decide) ?_
              refine wx_icmp_eq C 107 dX10_dot_90 (by decide) (fun c90 => absurd c90 (fun z => absurd (congrArg Int32.toInt z) (by rw [nI_toInt (by omega)]; show ¬ (n : Int) = -4; omega))) (fun c90 => ?_)
              refine wx_aload_n C 0 dX10_dot_93 rfl rfl ?_
              refine gf_X10_53 C dX10_dot_94 ?_
              refine ca_X10_83 C (rest := []) (t_X1_forgetAll X.1 (sk_add M n h x y w) L) (by decide) rfl (by decide) rfl rfl (Nat.le_of_ble_eq_true rfl) dX10_dot_97 (kV fun M97 L97 q97 => ?_)
              obtain ⟨rfl, rfl⟩ := q97
              refine wx_aload_n C 0 dX10_dot_100 rfl rfl ?_
              refine gf_X10_39 C dX10_dot_101 ?_
              refine ca_X10_86 C (rest := []) (t_X5_forget X.1 (g_st (sk_add M n h x y w) 54 2 0) L) (by decide) rfl (by decide) rfl rfl (Nat.le_of_ble_eq_true rfl) dX10_dot_104 (kV fun M104 L104 q104 => ?_)
              obtain ⟨rfl, rfl⟩ := q104
              refine wx_iload C 6 dX10_dot_107 rfl ?_
              refine wx_iret C hQ dX10_dot_109 ?_
              exact ⟨_, rfl, rfl, Or.inr ⟨hok, Or.inr ⟨c66, Or.inr ⟨e5, rfl, rfl⟩⟩⟩⟩
          · refine wx_iload C 5 dX10_dot_69 rfl ?_
            refine wx_iret C hQ dX10_dot_71 ?_
            exact ⟨_, rfl, rfl, Or.inr ⟨hok, Or.inl ⟨c66, rfl, rfl⟩⟩⟩
        · refine wx_bipush C (-2) dX10_dot_48 (by decide) ?_
          refine wx_iret C hQ dX10_dot_50 ?_
          refine ⟨_, rfl, rfl, Or.inl ⟨?_, rfl, rfl⟩⟩
          unfold dOK
          first
          | rw [bI_0.mp c8, Bool.false_and]
          | rw [bI_0.mp c21, Bool.false_and, Bool.and_false]
          | rw [bI_0.mp c34, Bool.false_and, Bool.and_false, Bool.and_false]
          | rw [bI_0.mp c45, Bool.and_false, Bool.and_false, Bool.and_false]
set_option maxHeartbeats 4000000 in
set_option maxRecDepth 100000 in
theorem t_X10_pace (G : g_G) (M : g_M) (L : g_L) (p : Int32) : mt G yX10_pace (Cond.code yX10_pace cX10_pace 3 (some .int)) 1 [.ref (G.1 + 0), .int p] M L (qI fun v M' L' => L = L' ∧ ((inW p 1 20 = false ∧ v = -2 ∧ M = M') ∨ (inW p 1 20 = true ∧ v = M 8 1 ∧ M' = g_st (g_st M 8 1 p) 9 10 0))) := by
  refine mt_of (by decide) rfl (Nat.le_of_ble_eq_true rfl) [(0, .ref (G.1 + 0)), (1, .int p)] rfl (fun X hG C hQ => ?_)
  subst hG
  refine wx_iload_n C 1 dX10_pace_0 rfl rfl ?_
  refine wx_iconst C 1 dX10_pace_1 (by decide) ?_
  refine wx_bipush C 20 dX10_pace_2 (by decide) ?_
  refine ca_X10_71 C (rest := []) (t_X10_isWithin X.1 M L p 1 20) (by decide) rfl rfl (Nat.le_of_ble_eq_true rfl) dX10_pace_4 (kI fun r4 M4 L4 q4 => ?_)
  obtain ⟨rfl, rfl, rfl⟩ := q4
  refine wx_if_ne C 13 dX10_pace_7 (by decide) (fun c7 => ?_) (fun c7 => ?_)
  · refine wx_aload_n C 0 dX10_pace_13 rfl rfl ?_
    refine gf_X10_30 C dX10_pace_14 ?_
    refine gf_X10_89 C dX10_pace_17 ?_
    refine wx_istore_n C [1, 2, 0] [(0, .ref (X.1.1 + 0)), (1, .int p), (2, .int (M 8 1))] dX10_pace_20 rfl (by decide) rfl ?_
    refine wx_aload_n C 0 dX10_pace_21 rfl rfl ?_
    refine gf_X10_30 C dX10_pace_22 ?_
    refine wx_iload_n C 1 dX10_pace_25 rfl rfl ?_
    refine pf_X10_89 C dX10_pace_26 ?_
    refine wx_aload_n C 0 dX10_pace_29 rfl rfl ?_
    refine gf_X10_39 C dX10_pace_30 ?_
    refine ca_X10_86 C (rest := []) (t_X5_forget X.1 (g_st M 8 1 p) L) (by decide) rfl (by decide) rfl rfl (Nat.le_of_ble_eq_true rfl) dX10_pace_33 (kV fun M33 L33 q33 => ?_)
    obtain ⟨rfl, rfl⟩ := q33
    refine wx_iload_n C 2 dX10_pace_36 rfl rfl ?_
    refine wx_iret C hQ dX10_pace_37 ?_
    exact ⟨_, rfl, rfl, Or.inr ⟨bI_n0.mp c7, rfl, rfl⟩⟩
  · refine wx_bipush C (-2) dX10_pace_10 (by decide) ?_
    refine wx_iret C hQ dX10_pace_12 ?_
    exact ⟨_, rfl, rfl, Or.inl ⟨bI_0.mp c7, rfl, rfl⟩⟩
set_option maxHeartbeats 4000000 in
set_option maxRecDepth 100000 in
theorem t_X10_net (G : g_G) (M : g_M) (L : g_L) (g e : Int32) : mt G yX10_net (Cond.code yX10_net cX10_net 3 (some .int)) 1 [.ref (G.1 + 0), .int g, .int e] M L (qI fun v M' L' => L = L' ∧ (((inW g 1 50 && inW e 0 200) = false ∧ v = -2 ∧ M = M') ∨ (inW g 1 50 = true ∧ inW e 0 200 = true ∧ v = 0 ∧ M' = g_st (g_st (g_st M 7 1 g) 7 2 e) 9 10 0))) := by
  refine mt_of (by decide) rfl (Nat.le_of_ble_eq_true rfl) [(0, .ref (G.1 + 0)), (1, .int g), (2, .int e)] rfl (fun X hG C hQ => ?_)
  subst hG
  refine wx_iload_n C 1 dX10_net_0 rfl rfl ?_
  refine wx_iconst C 1 dX10_net_1 (by decide) ?_
  refine wx_bipush C 50 dX10_net_2 (by decide) ?_
  refine ca_X10_71 C (rest := []) (t_X10_isWithin X.1 M L g 1 50) (by decide) rfl rfl (Nat.le_of_ble_eq_true rfl) dX10_net_4 (kI fun r4 M4 L4 q4 => ?_)
  obtain ⟨rfl, rfl, rfl⟩ := q4
  refine wx_if_eq C 21 dX10_net_7 (by decide) (fun c7 => ?_) (fun c7 => ?_)
  · refine wx_bipush C (-2) dX10_net_21 (by decide) ?_
    refine wx_iret C hQ dX10_net_23 ?_
    refine ⟨_, rfl, rfl, Or.inl ⟨?_, rfl, rfl⟩⟩
    first
    | rw [bI_0.mp c7, Bool.false_and]
    | rw [bI_0.mp c18, Bool.and_false]
  · refine wx_iload_n C 2 dX10_net_10 rfl rfl ?_
    refine wx_iconst C 0 dX10_net_11 (by decide) ?_
    refine wx_sipush C 200 dX10_net_12 (by decide) ?_
    refine ca_X10_71 C (rest := []) (t_X10_isWithin X.1 M L e 0 200) (by decide) rfl rfl (Nat.le_of_ble_eq_true rfl) dX10_net_15 (kI fun r15 M15 L15 q15 => ?_)
    obtain ⟨rfl, rfl, rfl⟩ := q15
    refine wx_if_ne C 24 dX10_net_18 (by decide) (fun c18 => ?_) (fun c18 => ?_)
    · refine wx_aload_n C 0 dX10_net_24 rfl rfl ?_
      refine gf_X10_23 C dX10_net_25 ?_
      refine wx_iload_n C 1 dX10_net_28 rfl rfl ?_
      refine pf_X10_93 C dX10_net_29 ?_
      refine wx_aload_n C 0 dX10_net_32 rfl rfl ?_
      refine gf_X10_23 C dX10_net_33 ?_
      refine wx_iload_n C 2 dX10_net_36 rfl rfl ?_
      refine pf_X10_96 C dX10_net_37 ?_
      refine wx_aload_n C 0 dX10_net_40 rfl rfl ?_
      refine gf_X10_39 C dX10_net_41 ?_
      refine ca_X10_86 C (rest := []) (t_X5_forget X.1 (g_st (g_st M 7 1 g) 7 2 e) L) (by decide) rfl (by decide) rfl rfl (Nat.le_of_ble_eq_true rfl) dX10_net_44 (kV fun M44 L44 q44 => ?_)
      obtain ⟨rfl, rfl⟩ := q44
      refine wx_iconst C 0 dX10_net_47 (by decide) ?_
      refine wx_iret C hQ dX10_net_48 ?_
      exact ⟨_, rfl, rfl, Or.inr ⟨bI_n0.mp c7, bI_n0.mp c18, rfl, rfl⟩⟩
    · refine wx_bipush C (-2) dX10_net_21 (by decide) ?_
      refine wx_iret C hQ dX10_net_23 ?_
      refine ⟨_, rfl, rfl, Or.inl ⟨?_, rfl, rfl⟩⟩
      first
      | rw [bI_0.mp c7, Bool.false_and]
      | rw [bI_0.mp c18, Bool.and_false]
def abS (t x y w o : Nat → Int32) (e : Nat) (k : Int32) : Int32 := if k = 0 then t e else if k = 1 then x e else if k = 2 then y e else if k = 3 then w e else if k = 4 then t e / 24 else if k = 5 then o e else -1
def abV (t x y w o : Nat → Int32) (n : Nat) (d k : Int32) : Int32 := if 0 ≤ d ∧ d < nI n then abS t x y w o d.toNatClampNeg k else -1
set_option maxHeartbeats 4000000 in
set_option maxRecDepth 100000 in
theorem t_X10_about (G : g_G) (M : g_M) (L : g_L) (d0 k : Int32) {n : Nat} (hn : M 1 5 = nI n) (h60 : n ≤ 60) : mt G yX10_about (Cond.code yX10_about cX10_about 3 (some .int)) 1 [.ref (G.1 + 0), .int d0, .int k] M L (qI fun v M' L' => v = abV (M 2) (M 3) (M 4) (M 5) (M 6) n d0 k ∧ M = M' ∧ L = L') := by
  refine mt_of (by decide) rfl (Nat.le_of_ble_eq_true rfl) [(0, .ref (G.1 + 0)), (1, .int d0), (2, .int k)] rfl (fun X hG C hQ => ?_)
  subst hG
  refine wx_aload_n C 0 dX10_about_0 rfl rfl ?_
  refine gf_X10_14 C dX10_about_1 ?_
  refine wx_iload_n C 1 dX10_about_4 rfl rfl ?_
  refine ca_X10_99 C (rest := []) (t_X7_has X.1 M L d0) (by decide) rfl (by decide) rfl rfl (Nat.le_of_ble_eq_true rfl) dX10_about_5 (kI fun r5 M5 L5 q5 => ?_)
  obtain ⟨rfl, rfl, rfl⟩ := q5
  refine wx_if_ne C 13 dX10_about_8 (by decide) (fun c8 => ?_) (fun c8 => ?_)
  · have hh := of_decide_eq_true (bI_n0.mp c8)
    rw [hn] at hh
    obtain ⟨e, he, rfl⟩ := in_of (by omega) hh.1 hh.2
    have eV : ∀ v, abV (M 2) (M 3) (M 4) (M 5) (M 6) n (nI e) v = abS (M 2) (M 3) (M 4) (M 5) (M 6) e v := fun v => by unfold abV; rw [if_pos hh, nI_clamp (by omega)]
    refine wx_iload_n C 2 dX10_about_13 rfl rfl ?_
    by_cases s14 : k = 0 ∨ k = 1 ∨ k = 2 ∨ k = 3 ∨ k = 4 ∨ k = 5
    · rcases s14 with s14 | s14 | s14 | s14 | s14 | s14
      · refine wx_tin C 52 dX10_about_14 (by rw [s14]; decide) (by rw [s14]; decide) (by rw [s14]; rfl) (by decide) ?_
        refine wx_aload_n C 0 dX10_about_52 rfl rfl ?_
        refine gf_X10_14 C dX10_about_53 ?_
        refine gf_X10_103 C dX10_about_56 ?_
        refine wx_iload_n C 1 dX10_about_59 rfl rfl ?_
        refine wx_iald C 2 e (by decide) (fun _ _ => rfl) (by decide) dX10_about_60 rfl (by omega) ?_
        refine wx_iret C hQ dX10_about_61 ?_
        refine ⟨_, rfl, ?_, rfl, rfl⟩
        rw [eV]
        unfold abS
        rw [s14]
        rfl
      · refine wx_tin C 62 dX10_about_14 (by rw [s14]; decide) (by rw [s14]; decide) (by rw [s14]; rfl) (by decide) ?_
        refine wx_aload_n C 0 dX10_about_62 rfl rfl ?_
        refine gf_X10_14 C dX10_about_63 ?_
        refine gf_X10_107 C dX10_about_66 ?_
        refine wx_iload_n C 1 dX10_about_69 rfl rfl ?_
        refine wx_iald C 3 e (by decide) (fun _ _ => rfl) (by decide) dX10_about_70 rfl (by omega) ?_
        refine wx_iret C hQ dX10_about_71 ?_
        refine ⟨_, rfl, ?_, rfl, rfl⟩
        rw [eV]
        unfold abS
        rw [s14]
        rfl
      · refine wx_tin C 72 dX10_about_14 (by rw [s14]; decide) (by rw [s14]; decide) (by rw [s14]; rfl) (by decide) ?_
        refine wx_aload_n C 0 dX10_about_72 rfl rfl ?_
        refine gf_X10_14 C dX10_about_73 ?_
        refine gf_X10_110 C dX10_about_76 ?_
        refine wx_iload_n C 1 dX10_about_79 rfl rfl ?_
        refine wx_iald C 4 e (by decide) (fun _ _ => rfl) (by decide) dX10_about_80 rfl (by omega) ?_
        refine wx_iret C hQ dX10_about_81 ?_
        refine ⟨_, rfl, ?_, rfl, rfl⟩
        rw [eV]
        unfold abS
        rw [s14]
        rfl
      · refine wx_tin C 82 dX10_about_14 (by rw [s14]; decide) (by rw [s14]; decide) (by rw [s14]; rfl) (by decide) ?_
        refine wx_aload_n C 0 dX10_about_82 rfl rfl ?_
        refine gf_X10_14 C dX10_about_83 ?_
        refine gf_X10_113 C dX10_about_86 ?_
        refine wx_iload_n C 1 dX10_about_89 rfl rfl ?_
        refine wx_iald C 5 e (by decide) (fun _ _ => rfl) (by decide) dX10_about_90 rfl (by omega) ?_
        refine wx_iret C hQ dX10_about_91 ?_
        refine ⟨_, rfl, ?_, rfl, rfl⟩
        rw [eV]
        unfold abS
        rw [s14]
        rfl
      · refine wx_tin C 92 dX10_about_14 (by rw [s14]; decide) (by rw [s14]; decide) (by rw [s14]; rfl) (by decide) ?_
        refine wx_aload_n C 0 dX10_about_92 rfl rfl ?_
        refine gf_X10_14 C dX10_about_93 ?_
        refine wx_iload_n C 1 dX10_about_96 rfl rfl ?_
        refine ca_X10_116 C (rest := []) (t_X7_nightOf X.1 M L (e := e) rfl (by omega)) (by decide) rfl (by decide) rfl rfl (Nat.le_of_ble_eq_true rfl) dX10_about_97 (kI fun r97 M97 L97 q97 => ?_)
        obtain ⟨rfl, rfl, rfl⟩ := q97
        refine wx_iret C hQ dX10_about_100 ?_
        refine ⟨_, rfl, ?_, rfl, rfl⟩
        rw [eV]
        unfold abS
        rw [s14]
        rfl
      · refine wx_tin C 101 dX10_about_14 (by rw [s14]; decide) (by rw [s14]; decide) (by rw [s14]; rfl) (by decide) ?_
        refine wx_aload_n C 0 dX10_about_101 rfl rfl ?_
        refine gf_X10_14 C dX10_about_102 ?_
        refine gf_X10_120 C dX10_about_105 ?_
        refine wx_iload_n C 1 dX10_about_108 rfl rfl ?_
        refine wx_iald C 6 e (by decide) (fun _ _ => rfl) (by decide) dX10_about_109 rfl (by omega) ?_
        refine wx_iret C hQ dX10_about_110 ?_
        refine ⟨_, rfl, ?_, rfl, rfl⟩
        rw [eV]
        unfold abS
        rw [s14]
        rfl
    · refine wx_tout C 111 dX10_about_14 (sw_out6 s14) (by decide) ?_
      refine wx_iconst C (-1) dX10_about_111 (by decide) ?_
      refine wx_iret C hQ dX10_about_112 ?_
      refine ⟨_, rfl, ?_, rfl, rfl⟩
      rw [eV]
      unfold abS
      rw [if_neg (fun z => s14 (Or.inl z)), if_neg (fun z => s14 (Or.inr (Or.inl z))), if_neg (fun z => s14 (Or.inr (Or.inr (Or.inl z)))), if_neg (fun z => s14 (Or.inr (Or.inr (Or.inr (Or.inl z))))), if_neg (fun z => s14 (Or.inr (Or.inr (Or.inr (Or.inr (Or.inl z)))))), if_neg (fun z => s14 (Or.inr (Or.inr (Or.inr (Or.inr (Or.inr z))))))]
  · refine wx_iconst C (-1) dX10_about_11 (by decide) ?_
    refine wx_iret C hQ dX10_about_12 ?_
    refine ⟨_, rfl, ?_, rfl, rfl⟩
    unfold abV
    rw [if_neg]
    rw [← hn]
    exact of_decide_eq_false (bI_0.mp c8)
set_option maxHeartbeats 4000000 in
set_option maxRecDepth 100000 in
theorem t_X10_bits (G : g_G) (M : g_M) (L : g_L) {n : Nat} (hn : M 1 5 = nI n) (h60 : n ≤ 60) : mt G yX10_bits (Cond.code yX10_bits cX10_bits 1 (some .int)) 3 [.ref (G.1 + 0)] M L (qI fun v M' L' => v = nI (bl (cB M) n n).length ∧ M = M' ∧ L = L') := by
  refine mt_of (by decide) rfl (Nat.le_of_ble_eq_true rfl) [(0, .ref (G.1 + 0))] rfl (fun X hG C hQ => ?_)
  subst hG
  refine wx_aload_n C 0 dX10_bits_0 rfl rfl ?_
  refine gf_X10_30 C dX10_bits_1 ?_
  refine ca_X10_123 C (rest := []) (t_X2_total X.1 M L hn h60) (by decide) rfl (by decide) rfl rfl (Nat.le_of_ble_eq_true rfl) dX10_bits_4 (kI fun r4 M4 L4 q4 => ?_)
  obtain ⟨rfl, rfl, rfl⟩ := q4
  refine wx_iret C hQ dX10_bits_7 ?_
  exact ⟨_, rfl, rfl, rfl, rfl⟩
/-- the x-th of a list, if there is one -/
def getP (l : List (Nat × Nat)) (x : Int32) : Option (Nat × Nat) := if 0 ≤ x then l[x.toNatClampNeg]? else none
def prV (l : List (Nat × Nat)) (x k : Int32) : Int32 := if inW k 0 1 then (match getP l x with | some e => if k = 0 then nI e.1 else nI e.2 | none => -1) else -1
/-- BitList's own two numbers are told anew -/
def bt2 (M : g_M) (a b : Int32) : g_M := g_st (g_st M 8 2 a) 8 3 b
theorem bt2_self (M : g_M) : bt2 M (M 8 2) (M 8 3) = M := by
  funext x y
  unfold bt2
  simp only [g_st_ap]
  (repeat' split)
  · rename_i h; rw [h.1, h.2]
  · rename_i h; rw [h.1, h.2]
  · rfl
theorem getP_n {l : List (Nat × Nat)} {q : Nat} (hq : q < 2 ^ 31) : getP l (nI q) = l[q]? := by
  unfold getP
  rw [if_pos (nI_pos' hq), nI_clamp hq]
theorem getP_no {l : List (Nat × Nat)} {x : Int32} (h : ∀ q, q < 2 ^ 31 → x = nI q → l.length ≤ q) : getP l x = none := by
  unfold getP
  split
  · rename_i h0
    have h1 : ¬ x < 0 := Int32.not_lt.mpr h0
    obtain ⟨q, hq, rfl⟩ := nI_of h1
    rw [nI_clamp hq]
    exact List.getElem?_eq_none (h q hq rfl)
  · rfl
set_option maxHeartbeats 4000000 in
set_option maxRecDepth 100000 in
theorem t_X10_bit (G : g_G) (M : g_M) (L : g_L) (x k : Int32) {n : Nat} (hn : M 1 5 = nI n) (h60 : n ≤ 60) : mt G yX10_bit (Cond.code yX10_bit cX10_bit 3 (some .int)) 3 [.ref (G.1 + 0), .int x, .int k] M L (qI fun v M' L' => L = L' ∧ v = prV (bl (cB M) n n) x k ∧ ∃ a b, M' = bt2 M a b) := by
  refine mt_of (by decide) rfl (Nat.le_of_ble_eq_true rfl) [(0, .ref (G.1 + 0)), (1, .int x), (2, .int k)] rfl (fun X hG C hQ => ?_)
  subst hG
  refine wx_iload_n C 2 dX10_bit_0 rfl rfl ?_
  refine wx_iconst C 0 dX10_bit_1 (by decide) ?_
  refine wx_iconst C 1 dX10_bit_2 (by decide) ?_
  refine ca_X10_71 C (rest := []) (t_X10_isWithin X.1 M L k 0 1) (by decide) rfl rfl (Nat.le_of_ble_eq_true rfl) dX10_bit_3 (kI fun r3 M3 L3 q3 => ?_)
  obtain ⟨rfl, rfl, rfl⟩ := q3
  refine wx_if_eq C 20 dX10_bit_6 (by decide) (fun c6 => ?_) (fun c6 => ?_)
  · refine wx_iconst C (-1) dX10_bit_20 (by decide) ?_
    refine wx_iret C hQ dX10_bit_21 ?_
    refine ⟨_, rfl, rfl, ?_, M 8 2, M 8 3, (bt2_self M).symm⟩
    unfold prV
    rw [if_neg (by rw [bI_0.mp c6]; decide)]
  · refine wx_aload_n C 0 dX10_bit_9 rfl rfl ?_
    refine gf_X10_30 C dX10_bit_10 ?_
    refine wx_iload_n C 1 dX10_bit_13 rfl rfl ?_
    refine ca_X10_127 C (rest := []) (t_X2_seek X.1 M L x hn h60) (by decide) rfl (by decide) rfl rfl (Nat.le_of_ble_eq_true rfl) dX10_bit_14 (kI fun r14 M14 L14 q14 => ?_)
    obtain ⟨rfl, h5⟩ := q14
    rcases h5 with ⟨rfl, q, e, hq, rfl, hbe, rfl⟩ | ⟨rfl, rfl, hno⟩
    · refine wx_if_ne C 22 dX10_bit_17 (by decide) (fun c17 => ?_) (fun c17 => absurd c17 (by decide))
      refine wx_iload_n C 2 dX10_bit_22 rfl rfl ?_
      refine wx_if_ne C 36 dX10_bit_23 (by decide) (fun c23 => ?_) (fun c23 => ?_)
      · refine wx_aload_n C 0 dX10_bit_36 rfl rfl ?_
        refine gf_X10_30 C dX10_bit_37 ?_
        refine gf_X10_133 C dX10_bit_40 ?_
        refine wx_iret C hQ dX10_bit_43 ?_
        refine ⟨_, rfl, rfl, ?_, _, _, rfl⟩
        unfold prV
        rw [if_pos (bI_n0.mp c6), getP_n hq, hbe]
        first
        | (show _ = if k = 0 then _ else _; rw [if_pos c23]; rfl)
        | (show _ = if k = 0 then _ else _; rw [if_neg c23]; rfl)
      · refine wx_aload_n C 0 dX10_bit_26 rfl rfl ?_
        refine gf_X10_30 C dX10_bit_27 ?_
        refine gf_X10_130 C dX10_bit_30 ?_
        refine wx_goto C 43 dX10_bit_33 (by decide) ?_
        refine wx_iret C hQ dX10_bit_43 ?_
        refine ⟨_, rfl, rfl, ?_, _, _, rfl⟩
        unfold prV
        rw [if_pos (bI_n0.mp c6), getP_n hq, hbe]
        first
        | (show _ = if k = 0 then _ else _; rw [if_pos c23]; rfl)
        | (show _ = if k = 0 then _ else _; rw [if_neg c23]; rfl)
    · refine wx_if_ne C 22 dX10_bit_17 (by decide) (fun c17 => absurd c17 (fun z => z rfl)) (fun c17 => ?_)
      refine wx_iconst C (-1) dX10_bit_20 (by decide) ?_
      refine wx_iret C hQ dX10_bit_21 ?_
      refine ⟨_, rfl, rfl, ?_, M 8 2, M 8 3, (bt2_self M).symm⟩
      unfold prV
      rw [getP_no hno, if_pos (bI_n0.mp c6)]
set_option maxHeartbeats 4000000 in
set_option maxRecDepth 100000 in
theorem t_X10_pairs (G : g_G) (M : g_M) (L : g_L) {n : Nat} (hn : M 1 5 = nI n) (h60 : n ≤ 60) (hg : 1 ≤ (M 7 1).toInt) (hk : M 9 10 = 0 ∨ (M 9 10 = 1 ∧ chR M n)) : mt G yX10_pairs (Cond.code yX10_pairs cX10_pairs 1 (some .int)) 6 [.ref (G.1 + 0)] M L (qI (toP M L n)) := by
  refine mt_of (by decide) rfl (Nat.le_of_ble_eq_true rfl) [(0, .ref (G.1 + 0))] rfl (fun X hG C hQ => ?_)
  subst hG
  refine wx_aload_n C 0 dX10_pairs_0 rfl rfl ?_
  refine gf_X10_39 C dX10_pairs_1 ?_
  refine ca_X10_136 C (rest := []) (t_X5_total X.1 M L hn h60 hg hk) (by decide) rfl (by decide) rfl rfl (Nat.le_of_ble_eq_true rfl) dX10_pairs_4 (kI fun r4 M4 L4 q4 => ?_)
  refine wx_iret C hQ dX10_pairs_7 ?_
  exact ⟨_, rfl, q4⟩
