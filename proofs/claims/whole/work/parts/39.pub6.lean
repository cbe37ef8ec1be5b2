/-! ===== NightDots: fit, miss, part, same, merge, count ===== -/
def frL (L K : g_L) : Prop := ∀ a b, a ≠ 146 → K a b = L a b
theorem frL.rf (L : g_L) : frL L L := fun _ _ _ => rfl
theorem frL_ln (L : g_L) (t z : Nat → Int32) (r : Nat → Nat) (l : Nat) : frL L (lnF L t z r l) := fun a b h => by
  unfold lnF lnS
  rw [g_sl_ap, if_neg (by omega), g_sl_ap, if_neg (by omega), g_sl_ap, if_neg (by omega), g_sl_ap, if_neg (by omega), g_sl_ap, if_neg (by omega)]
def fpT (t z : Nat → Int32) (r : Nat → Nat) (l : Nat) : Int64 := smT z r l * spB t r l - spT t z r l * smT t r l
def fpB (t : Nat → Int32) (r : Nat → Nat) (l : Nat) : Int64 := (nI l).toInt64 * spB t r l
def ftV (t z : Nat → Int32) (r : Nat → Nat) (l : Nat) (k pt : Int32) : Int64 := if k = 0 then red (fpT t z r l) (fpB t r l) pt else red (spT t z r l) (spB t r l) pt
def msV (t z : Nat → Int32) (r : Nat → Nat) (l d : Nat) (pt : Int32) : Int64 := red (jab ((z d).toInt64 * fpB t r l - fpT t z r l - spT t z r l * (nI l).toInt64 * (t d).toInt64)) (fpB t r l) pt
set_option maxHeartbeats 4000000 in
set_option maxRecDepth 100000 in
theorem t_X10_fit (G : g_G) (M : g_M) (L : g_L) (x ax k pt : Int32) {n e nx kp : Nat} {ln : Nat → Nat} {rf : Nat → Nat → Nat} (hC : cI M n e nx kp ln rf) : mt G yX10_fit (Cond.code yX10_fit cX10_fit 5 (some .long)) 3 [.ref (G.1 + 0), .int x, .int ax, .int k, .int pt] M L (qL fun v M' L' => gC M M' n ∧ frL L L' ∧ (((inW k 0 1 = false ∨ inW pt 0 1 = false ∨ (cHas M x = false ∨ inW ax 0 1 = false)) ∧ v = NO) ∨ (inW k 0 1 = true ∧ inW pt 0 1 = true ∧ inW ax 0 1 = true ∧ ∃ p, p < e ∧ x = nI p ∧ M (18 + 3 * p) 1 = 0 ∧ v = (if 0 < spB (M 2) (rf p) (ln p) then ftV (M 2) (plc (M 3) (M 4) ax) (rf p) (ln p) k pt else NO)))) := by
  refine mt_of (by decide) rfl (Nat.le_of_ble_eq_true rfl) [(0, .ref (G.1 + 0)), (1, .int x), (2, .int ax), (3, .int k), (4, .int pt)] rfl (fun X hG C hQ => ?_)
  subst hG
  refine wx_iload_n C 3 dX10_fit_0 rfl rfl ?_
  refine wx_iconst C 0 dX10_fit_1 (by decide) ?_
  refine wx_iconst C 1 dX10_fit_2 (by decide) ?_
  refine ca_X10_71 C (rest := []) (t_X10_isWithin X.1 M L k 0 1) (by decide) rfl rfl (Nat.le_of_ble_eq_true rfl) dX10_fit_3 (kI fun r3 M3 L3 q3 => ?_)
  obtain ⟨rfl, rfl, rfl⟩ := q3
  refine wx_if_eq C 28 dX10_fit_6 (by decide) (fun c6 => ?_) (fun c6 => ?_)
  · refine wx_ldc2 C w3_70 dX10_fit_28 ?_
    refine wx_lret C hQ dX10_fit_31 ?_
    refine ⟨_, rfl, hC.gC, frL.rf L, Or.inl ⟨?_, rfl⟩⟩
    first
    | exact Or.inl (bI_0.mp c6)
    | exact Or.inr (Or.inl (bI_0.mp c16))
    | exact Or.inr (Or.inr hbad)
  · refine wx_iload C 4 dX10_fit_9 rfl ?_
    refine wx_iconst C 0 dX10_fit_11 (by decide) ?_
    refine wx_iconst C 1 dX10_fit_12 (by decide) ?_
    refine ca_X10_71 C (rest := []) (t_X10_isWithin X.1 M L pt 0 1) (by decide) rfl rfl (Nat.le_of_ble_eq_true rfl) dX10_fit_13 (kI fun r13 M13 L13 q13 => ?_)
    obtain ⟨rfl, rfl, rfl⟩ := q13
    refine wx_if_eq C 28 dX10_fit_16 (by decide) (fun c16 => ?_) (fun c16 => ?_)
    · refine wx_ldc2 C w3_70 dX10_fit_28 ?_
      refine wx_lret C hQ dX10_fit_31 ?_
      refine ⟨_, rfl, hC.gC, frL.rf L, Or.inl ⟨?_, rfl⟩⟩
      first
      | exact Or.inl (bI_0.mp c6)
      | exact Or.inr (Or.inl (bI_0.mp c16))
      | exact Or.inr (Or.inr hbad)
    · refine wx_aload_n C 0 dX10_fit_19 rfl rfl ?_
      refine wx_iload_n C 1 dX10_fit_20 rfl rfl ?_
      refine wx_iload_n C 2 dX10_fit_21 rfl rfl ?_
      refine ca_X10_219 C (rest := []) (t_X10_lay X.1 M L (x := x) ax hC.e.1 hC.e.2 (fun p hp => (hC.r hp).1)) (by decide) rfl (by decide) rfl rfl (Nat.le_of_ble_eq_true rfl) dX10_fit_22 (kI fun r22 M22 L22 q22 => ?_)
      obtain ⟨rfl, hlay⟩ := q22
      rcases hlay with ⟨hbad, rfl, rfl⟩ | ⟨p, hp, rfl, hgo, hax, rfl, rfl⟩
      · refine wx_if_ne C 32 dX10_fit_25 (by decide) (fun c25 => absurd c25 (fun z => z rfl)) (fun c25 => ?_)
        refine wx_ldc2 C w3_70 dX10_fit_28 ?_
        refine wx_lret C hQ dX10_fit_31 ?_
        refine ⟨_, rfl, hC.gC, frL.rf L, Or.inl ⟨?_, rfl⟩⟩
        first
        | exact Or.inl (bI_0.mp c6)
        | exact Or.inr (Or.inl (bI_0.mp c16))
        | exact Or.inr (Or.inr hbad)
      · refine wx_if_ne C 32 dX10_fit_25 (by decide) (fun c25 => ?_) (fun c25 => ?_)
        · refine wx_iload_n C 3 dX10_fit_32 rfl rfl ?_
          refine wx_if_ne C 56 dX10_fit_33 (by decide) (fun c33 => ?_) (fun c33 => ?_)
          · refine wx_aload_n C 0 dX10_fit_56 rfl rfl ?_
            refine gf_X10_60 C dX10_fit_57 ?_
            refine gf_X10_234 C dX10_fit_60 ?_
            refine wx_aload_n C 0 dX10_fit_63 rfl rfl ?_
            refine gf_X10_60 C dX10_fit_64 ?_
            refine gf_X10_238 C dX10_fit_67 ?_
            refine wx_iload C 4 dX10_fit_70 rfl ?_
            refine ca_X10_230 C (rest := []) (t_X3_reduced X.1 M (lnF L (M 2) (plc (M 3) (M 4) ax) (rf p) (ln p)) ((lnF L (M 2) (plc (M 3) (M 4) ax) (rf p) (ln p)) 146 3) ((lnF L (M 2) (plc (M 3) (M 4) ax) (rf p) (ln p)) 146 4) pt) (by decide) rfl rfl (Nat.le_of_ble_eq_true rfl) dX10_fit_72 (kL fun r72 M72 L72 q72 => ?_)
            obtain ⟨rfl, rfl, rfl⟩ := q72
            refine wx_lret C hQ dX10_fit_75 ?_
            refine ⟨_, rfl, hC.gC, frL_ln _ _ _ _ _, Or.inr ⟨bI_n0.mp c6, bI_n0.mp c16, hax, p, hp, rfl, hgo, ?_⟩⟩
            rw [if_pos (of_decide_eq_true (bI_n0.mp c25))]
            unfold ftV
            rw [if_neg c33]
            rfl
          · refine wx_aload_n C 0 dX10_fit_36 rfl rfl ?_
            refine gf_X10_60 C dX10_fit_37 ?_
            refine ca_X10_223 C (rest := []) (t_X3_placeTop X.1 M (lnF L (M 2) (plc (M 3) (M 4) ax) (rf p) (ln p))) (by decide) rfl (by decide) rfl rfl (Nat.le_of_ble_eq_true rfl) dX10_fit_40 (kL fun r40 M40 L40 q40 => ?_)
            obtain ⟨rfl, rfl, rfl⟩ := q40
            refine wx_aload_n C 0 dX10_fit_43 rfl rfl ?_
            refine gf_X10_60 C dX10_fit_44 ?_
            refine ca_X10_227 C (rest := [.long (pT (lnF L (M 2) (plc (M 3) (M 4) ax) (rf p) (ln p)))]) (t_X3_placeBelow X.1 M (lnF L (M 2) (plc (M 3) (M 4) ax) (rf p) (ln p))) (by decide) rfl (by decide) rfl rfl (Nat.le_of_ble_eq_true rfl) dX10_fit_47 (kL fun r47 M47 L47 q47 => ?_)
            obtain ⟨rfl, rfl, rfl⟩ := q47
            refine wx_iload C 4 dX10_fit_50 rfl ?_
            refine ca_X10_230 C (rest := []) (t_X3_reduced X.1 M (lnF L (M 2) (plc (M 3) (M 4) ax) (rf p) (ln p)) (pT (lnF L (M 2) (plc (M 3) (M 4) ax) (rf p) (ln p))) (pB (lnF L (M 2) (plc (M 3) (M 4) ax) (rf p) (ln p))) pt) (by decide) rfl rfl (Nat.le_of_ble_eq_true rfl) dX10_fit_52 (kL fun r52 M52 L52 q52 => ?_)
            obtain ⟨rfl, rfl, rfl⟩ := q52
            refine wx_lret C hQ dX10_fit_55 ?_
            refine ⟨_, rfl, hC.gC, frL_ln _ _ _ _ _, Or.inr ⟨bI_n0.mp c6, bI_n0.mp c16, hax, p, hp, rfl, hgo, ?_⟩⟩
            rw [if_pos (of_decide_eq_true (bI_n0.mp c25))]
            unfold ftV
            rw [if_pos c33]
            rfl
        · refine wx_ldc2 C w3_70 dX10_fit_28 ?_
          refine wx_lret C hQ dX10_fit_31 ?_
          refine ⟨_, rfl, hC.gC, frL_ln _ _ _ _ _, Or.inr ⟨bI_n0.mp c6, bI_n0.mp c16, hax, p, hp, rfl, hgo, ?_⟩⟩
          rw [if_neg (of_decide_eq_false (bI_0.mp c25))]
          rfl
set_option maxHeartbeats 4000000 in
set_option maxRecDepth 100000 in
theorem t_X10_miss (G : g_G) (M : g_M) (L : g_L) (x ix ax pt : Int32) {n e nx kp : Nat} {ln : Nat → Nat} {rf : Nat → Nat → Nat} (hC : cI M n e nx kp ln rf) : mt G yX10_miss (Cond.code yX10_miss cX10_miss 9 (some .long)) 3 [.ref (G.1 + 0), .int x, .int ix, .int ax, .int pt] M L (qL fun v M' L' => gC M M' n ∧ frL L L' ∧ (((inW pt 0 1 = false ∨ (cHas M x = false ∨ inW ax 0 1 = false)) ∧ v = NO) ∨ (inW pt 0 1 = true ∧ inW ax 0 1 = true ∧ ∃ p, p < e ∧ x = nI p ∧ M (18 + 3 * p) 1 = 0 ∧ v = (if 0 < spB (M 2) (rf p) (ln p) ∧ dHas (ln p) ix = true then msV (M 2) (plc (M 3) (M 4) ax) (rf p) (ln p) (rf p ix.toNatClampNeg) pt else NO)))) := by
  refine mt_of (by decide) rfl (Nat.le_of_ble_eq_true rfl) [(0, .ref (G.1 + 0)), (1, .int x), (2, .int ix), (3, .int ax), (4, .int pt)] rfl (fun X hG C hQ => ?_)
  subst hG
  refine wx_iload C 4 dX10_miss_0 rfl ?_
  refine wx_iconst C 0 dX10_miss_2 (by decide) ?_
  refine wx_iconst C 1 dX10_miss_3 (by decide) ?_
  refine ca_X10_71 C (rest := []) (t_X10_isWithin X.1 M L pt 0 1) (by decide) rfl rfl (Nat.le_of_ble_eq_true rfl) dX10_miss_4 (kI fun r4 M4 L4 q4 => ?_)
  obtain ⟨rfl, rfl, rfl⟩ := q4
  refine wx_if_eq C 19 dX10_miss_7 (by decide) (fun c7 => ?_) (fun c7 => ?_)
  · refine wx_ldc2 C w3_70 dX10_miss_19 ?_
    refine wx_lret C hQ dX10_miss_22 ?_
    refine ⟨_, rfl, hC.gC, frL.rf L, Or.inl ⟨?_, rfl⟩⟩
    first
    | exact Or.inl (bI_0.mp c7)
    | exact Or.inr hbad
  · refine wx_aload_n C 0 dX10_miss_10 rfl rfl ?_
    refine wx_iload_n C 1 dX10_miss_11 rfl rfl ?_
    refine wx_iload_n C 3 dX10_miss_12 rfl rfl ?_
    refine ca_X10_219 C (rest := []) (t_X10_lay X.1 M L (x := x) ax hC.e.1 hC.e.2 (fun p hp => (hC.r hp).1)) (by decide) rfl (by decide) rfl rfl (Nat.le_of_ble_eq_true rfl) dX10_miss_13 (kI fun r13 M13 L13 q13 => ?_)
    obtain ⟨rfl, hlay⟩ := q13
    rcases hlay with ⟨hbad, rfl, rfl⟩ | ⟨p, hp, rfl, hgo, hax, rfl, rfl⟩
    · refine wx_if_ne C 23 dX10_miss_16 (by decide) (fun c16 => absurd c16 (fun z => z rfl)) (fun c16 => ?_)
      refine wx_ldc2 C w3_70 dX10_miss_19 ?_
      refine wx_lret C hQ dX10_miss_22 ?_
      refine ⟨_, rfl, hC.gC, frL.rf L, Or.inl ⟨?_, rfl⟩⟩
      first
      | exact Or.inl (bI_0.mp c7)
      | exact Or.inr hbad
    · refine wx_if_ne C 23 dX10_miss_16 (by decide) (fun c16 => ?_) (fun c16 => ?_)
      · have h12 := hC.e.2
        have hp12 : p < 12 := by omega
        obtain ⟨hrp, h8⟩ := hC.r hp12
        refine wx_aload_n C 0 dX10_miss_23 rfl rfl ?_
        refine gf_X10_46 C dX10_miss_24 ?_
        refine gf_X10_167 C dX10_miss_27 ?_
        refine wx_iload_n C 1 dX10_miss_30 rfl rfl ?_
        refine wx_aaldW C p dX10_miss_31 rfl hp12 ?_
        refine gf_X10_171 C hp12 dX10_miss_32 ?_
        refine wx_astore C [1, 2, 3, 4, 5, 0] [(0, .ref (X.1.1 + 0)), (1, .int (nI p)), (2, .int ix), (3, .int ax), (4, .int pt), (5, .ref (X.1.1 + (19 + 3 * p)))] dX10_miss_35 (by decide) rfl ?_
        refine wx_iload_n C 2 dX10_miss_37 rfl rfl ?_
        refine wx_iconst C 0 dX10_miss_38 (by decide) ?_
        refine wx_aload C 5 dX10_miss_39 rfl ?_
        refine gf_X10_183 C (rw_w hp12) dX10_miss_41 ?_
        refine wx_iconst C 1 dX10_miss_44 (by decide) ?_
        refine wx_isub C dX10_miss_45 ?_
        refine ca_X10_71 C (rest := []) (t_X10_isWithin X.1 M (lnF L (M 2) (plc (M 3) (M 4) ax) (rf p) (ln p)) ix 0 (M (19 + 3 * p) 1 - 1)) (by decide) rfl rfl (Nat.le_of_ble_eq_true rfl) dX10_miss_46 (kI fun r46 M46 L46 q46 => ?_)
        obtain ⟨rfl, rfl, rfl⟩ := q46
        refine wx_if_ne C 56 dX10_miss_49 (by decide) (fun c49 => ?_) (fun c49 => ?_)
        · have hin := bI_n0.mp c49
          rw [hrp.2.1, inW_p (by omega)] at hin
          obtain ⟨j, hj, rfl⟩ := dHas_t (by omega) hin
          have hjr := hrp.2.2.2 j hj
          refine wx_aload C 5 dX10_miss_56 rfl ?_
          refine gf_X10_241 C (rw_w hp12) dX10_miss_58 ?_
          refine wx_iload_n C 2 dX10_miss_61 rfl rfl ?_
          refine wx_iald C ((19 + 3 * p) + 1) j (g_row_lt2 (rw_w hp12)) (sh_rowD (rw_w hp12)) (by decide) dX10_miss_62 rfl (by omega) ?_
          refine wx_istore C [1, 2, 3, 4, 5, 6, 0] [(0, .ref (X.1.1 + 0)), (1, .int (nI p)), (2, .int (nI j)), (3, .int ax), (4, .int pt), (5, .ref (X.1.1 + (19 + 3 * p))), (6, .int (M ((19 + 3 * p) + 1) j))] dX10_miss_63 (by decide) rfl ?_
          refine wx_aload_n C 0 dX10_miss_65 rfl rfl ?_
          refine gf_X10_60 C dX10_miss_66 ?_
          refine wx_aload_n C 0 dX10_miss_69 rfl rfl ?_
          refine gf_X10_14 C dX10_miss_70 ?_
          refine gf_X10_103 C dX10_miss_73 ?_
          refine wx_iload C 6 dX10_miss_76 rfl ?_
          refine wx_iald C 2 (rf p j) (by decide) (fun _ _ => rfl) (by decide) dX10_miss_78 hjr.1 hjr.2 ?_
          refine wx_i2l C dX10_miss_79 ?_
          refine wx_aload_n C 0 dX10_miss_80 rfl rfl ?_
          refine gf_X10_14 C dX10_miss_81 ?_
          refine wx_iload C 6 dX10_miss_84 rfl ?_
          refine wx_iload_n C 3 dX10_miss_86 rfl rfl ?_
          refine ca_X10_244 C (rest := [.long ((M 2 (rf p j)).toInt64), .ref (X.1.1 + 146)]) (t_X7_placeOf X.1 M (lnF L (M 2) (plc (M 3) (M 4) ax) (rf p) (ln p)) hjr.1 hjr.2 ax) (by decide) rfl (by decide) rfl rfl (Nat.le_of_ble_eq_true rfl) dX10_miss_87 (kI fun r87 M87 L87 q87 => ?_)
          obtain ⟨rfl, rfl, rfl⟩ := q87
          refine wx_i2l C dX10_miss_90 ?_
          refine ca_X10_248 C (rest := []) (t_X3_missTop X.1 M (lnF L (M 2) (plc (M 3) (M 4) ax) (rf p) (ln p)) ((M 2 (rf p j)).toInt64) ((plc (M 3) (M 4) ax (rf p j)).toInt64)) (by decide) rfl (by decide) rfl rfl (Nat.le_of_ble_eq_true rfl) dX10_miss_91 (kL fun r91 M91 L91 q91 => ?_)
          obtain ⟨rfl, rfl, rfl⟩ := q91
          refine wx_lstore C [1, 2, 3, 4, 5, 6, 7, 0] [(0, .ref (X.1.1 + 0)), (1, .int (nI p)), (2, .int (nI j)), (3, .int ax), (4, .int pt), (5, .ref (X.1.1 + (19 + 3 * p))), (6, .int (M ((19 + 3 * p) + 1) j)), (7, .long (jab (((plc (M 3) (M 4) ax (rf p j)).toInt64) * pB (lnF L (M 2) (plc (M 3) (M 4) ax) (rf p) (ln p)) - pT (lnF L (M 2) (plc (M 3) (M 4) ax) (rf p) (ln p)) - (lnF L (M 2) (plc (M 3) (M 4) ax) (rf p) (ln p)) 146 3 * (lnF L (M 2) (plc (M 3) (M 4) ax) (rf p) (ln p)) 146 0 * ((M 2 (rf p j)).toInt64))))] dX10_miss_94 (by decide) rfl ?_
          refine wx_lload C 7 dX10_miss_96 rfl ?_
          refine wx_aload_n C 0 dX10_miss_98 rfl rfl ?_
          refine gf_X10_60 C dX10_miss_99 ?_
          refine ca_X10_227 C (rest := [.long (jab (((plc (M 3) (M 4) ax (rf p j)).toInt64) * pB (lnF L (M 2) (plc (M 3) (M 4) ax) (rf p) (ln p)) - pT (lnF L (M 2) (plc (M 3) (M 4) ax) (rf p) (ln p)) - (lnF L (M 2) (plc (M 3) (M 4) ax) (rf p) (ln p)) 146 3 * (lnF L (M 2) (plc (M 3) (M 4) ax) (rf p) (ln p)) 146 0 * ((M 2 (rf p j)).toInt64)))]) (t_X3_placeBelow X.1 M (lnF L (M 2) (plc (M 3) (M 4) ax) (rf p) (ln p))) (by decide) rfl (by decide) rfl rfl (Nat.le_of_ble_eq_true rfl) dX10_miss_102 (kL fun r102 M102 L102 q102 => ?_)
          obtain ⟨rfl, rfl, rfl⟩ := q102
          refine wx_iload C 4 dX10_miss_105 rfl ?_
          refine ca_X10_230 C (rest := []) (t_X3_reduced X.1 M (lnF L (M 2) (plc (M 3) (M 4) ax) (rf p) (ln p)) (jab (((plc (M 3) (M 4) ax (rf p j)).toInt64) * pB (lnF L (M 2) (plc (M 3) (M 4) ax) (rf p) (ln p)) - pT (lnF L (M 2) (plc (M 3) (M 4) ax) (rf p) (ln p)) - (lnF L (M 2) (plc (M 3) (M 4) ax) (rf p) (ln p)) 146 3 * (lnF L (M 2) (plc (M 3) (M 4) ax) (rf p) (ln p)) 146 0 * ((M 2 (rf p j)).toInt64))) (pB (lnF L (M 2) (plc (M 3) (M 4) ax) (rf p) (ln p))) pt) (by decide) rfl rfl (Nat.le_of_ble_eq_true rfl) dX10_miss_107 (kL fun r107 M107 L107 q107 => ?_)
          obtain ⟨rfl, rfl, rfl⟩ := q107
          refine wx_lret C hQ dX10_miss_110 ?_
          refine ⟨_, rfl, hC.gC, frL_ln _ _ _ _ _, Or.inr ⟨bI_n0.mp c7, hax, p, hp, rfl, hgo, ?_⟩⟩
          rw [if_pos ⟨of_decide_eq_true (bI_n0.mp c16), hin⟩, nI_clamp (by omega)]
          rfl
        · refine wx_ldc2 C w3_70 dX10_miss_52 ?_
          refine wx_lret C hQ dX10_miss_55 ?_
          refine ⟨_, rfl, hC.gC, frL_ln _ _ _ _ _, Or.inr ⟨bI_n0.mp c7, hax, p, hp, rfl, hgo, ?_⟩⟩
          have hin := bI_0.mp c49
          rw [hrp.2.1, inW_p (by omega)] at hin
          rw [if_neg (fun z => by rw [hin] at z; cases z.2)]
          rfl
      · refine wx_ldc2 C w3_70 dX10_miss_19 ?_
        refine wx_lret C hQ dX10_miss_22 ?_
        refine ⟨_, rfl, hC.gC, frL_ln _ _ _ _ _, Or.inr ⟨bI_n0.mp c7, hax, p, hp, rfl, hgo, ?_⟩⟩
        rw [if_neg (fun z => absurd z.1 (of_decide_eq_false (bI_0.mp c16)))]
        rfl
set_option maxHeartbeats 4000000 in
set_option maxRecDepth 100000 in
theorem t_X10_count (G : g_G) (M : g_M) (L : g_L) (k : Int32) {n e nx kp : Nat} {ln : Nat → Nat} {rf : Nat → Nat → Nat} (hC : cI M n e nx kp ln rf) : mt G yX10_count (Cond.code yX10_count cX10_count 2 (some .int)) 2 [.ref (G.1 + 0), .int k] M L (qI fun v M' L' => L = L' ∧ gC M M' n ∧ v = (if k = 0 then nI n else if k = 1 then nI (cn (fun d => decide (M 6 d = -1)) n) else if k = 2 then nI (cn (fun p => decide (M (18 + 3 * p) 1 = 0)) e) else if k = 3 then nI e else if k = 4 then M 8 1 else if k = 5 then M 7 1 else if k = 6 then M 7 2 else if k = 7 then nI kp else -1)) := by
  refine mt_of (by decide) rfl (Nat.le_of_ble_eq_true rfl) [(0, .ref (G.1 + 0)), (1, .int k)] rfl (fun X hG C hQ => ?_)
  subst hG
  refine wx_iload_n C 1 dX10_count_0 rfl rfl ?_
  by_cases s1 : k = 0 ∨ k = 1 ∨ k = 2 ∨ k = 3 ∨ k = 4 ∨ k = 5 ∨ k = 6 ∨ k = 7
  · rcases s1 with s1 | s1 | s1 | s1 | s1 | s1 | s1 | s1
    · refine wx_tin C 48 dX10_count_1 (by rw [s1]; decide) (by rw [s1]; decide) (by rw [s1]; rfl) (by decide) ?_
      refine wx_aload_n C 0 dX10_count_48 rfl rfl ?_
      refine gf_X10_14 C dX10_count_49 ?_
      refine gf_X10_303 C dX10_count_52 ?_
      refine wx_iret C hQ dX10_count_55 ?_
      refine ⟨_, rfl, rfl, hC.gC, ?_⟩
      rw [s1]
      first
      | exact hC.n.1
      | exact hC.e.1
      | exact hC.a.2.2.1
      | rfl
    · refine wx_tin C 56 dX10_count_1 (by rw [s1]; decide) (by rw [s1]; decide) (by rw [s1]; rfl) (by decide) ?_
      refine wx_aload_n C 0 dX10_count_56 rfl rfl ?_
      refine gf_X10_14 C dX10_count_57 ?_
      refine ca_X10_306 C (rest := []) (t_X7_freeOnes X.1 M L hC.n.1 hC.n.2) (by decide) rfl (by decide) rfl rfl (Nat.le_of_ble_eq_true rfl) dX10_count_60 (kI fun r60 M60 L60 q60 => ?_)
      obtain ⟨rfl, rfl, rfl⟩ := q60
      refine wx_iret C hQ dX10_count_63 ?_
      refine ⟨_, rfl, rfl, hC.gC, ?_⟩
      rw [s1]
      first
      | exact hC.n.1
      | exact hC.e.1
      | exact hC.a.2.2.1
      | rfl
    · refine wx_tin C 64 dX10_count_1 (by rw [s1]; decide) (by rw [s1]; decide) (by rw [s1]; rfl) (by decide) ?_
      refine wx_aload_n C 0 dX10_count_64 rfl rfl ?_
      refine gf_X10_46 C dX10_count_65 ?_
      refine ca_X10_309 C (rest := []) (t_X9_notGone X.1 M L hC.e.1 hC.e.2) (by decide) rfl (by decide) rfl rfl (Nat.le_of_ble_eq_true rfl) dX10_count_68 (kI fun r68 M68 L68 q68 => ?_)
      obtain ⟨rfl, rfl, rfl⟩ := q68
      refine wx_iret C hQ dX10_count_71 ?_
      refine ⟨_, rfl, rfl, hC.gC, ?_⟩
      rw [s1]
      first
      | exact hC.n.1
      | exact hC.e.1
      | exact hC.a.2.2.1
      | rfl
    · refine wx_tin C 72 dX10_count_1 (by rw [s1]; decide) (by rw [s1]; decide) (by rw [s1]; rfl) (by decide) ?_
      refine wx_aload_n C 0 dX10_count_72 rfl rfl ?_
      refine gf_X10_46 C dX10_count_73 ?_
      refine gf_X10_189 C dX10_count_76 ?_
      refine wx_iret C hQ dX10_count_79 ?_
      refine ⟨_, rfl, rfl, hC.gC, ?_⟩
      rw [s1]
      first
      | exact hC.n.1
      | exact hC.e.1
      | exact hC.a.2.2.1
      | rfl
    · refine wx_tin C 80 dX10_count_1 (by rw [s1]; decide) (by rw [s1]; decide) (by rw [s1]; rfl) (by decide) ?_
      refine wx_aload_n C 0 dX10_count_80 rfl rfl ?_
      refine gf_X10_30 C dX10_count_81 ?_
      refine gf_X10_89 C dX10_count_84 ?_
      refine wx_iret C hQ dX10_count_87 ?_
      refine ⟨_, rfl, rfl, hC.gC, ?_⟩
      rw [s1]
      first
      | exact hC.n.1
      | exact hC.e.1
      | exact hC.a.2.2.1
      | rfl
    · refine wx_tin C 88 dX10_count_1 (by rw [s1]; decide) (by rw [s1]; decide) (by rw [s1]; rfl) (by decide) ?_
      refine wx_aload_n C 0 dX10_count_88 rfl rfl ?_
      refine gf_X10_23 C dX10_count_89 ?_
      refine gf_X10_93 C dX10_count_92 ?_
      refine wx_iret C hQ dX10_count_95 ?_
      refine ⟨_, rfl, rfl, hC.gC, ?_⟩
      rw [s1]
      first
      | exact hC.n.1
      | exact hC.e.1
      | exact hC.a.2.2.1
      | rfl
    · refine wx_tin C 96 dX10_count_1 (by rw [s1]; decide) (by rw [s1]; decide) (by rw [s1]; rfl) (by decide) ?_
      refine wx_aload_n C 0 dX10_count_96 rfl rfl ?_
      refine gf_X10_23 C dX10_count_97 ?_
      refine gf_X10_96 C dX10_count_100 ?_
      refine wx_iret C hQ dX10_count_103 ?_
      refine ⟨_, rfl, rfl, hC.gC, ?_⟩
      rw [s1]
      first
      | exact hC.n.1
      | exact hC.e.1
      | exact hC.a.2.2.1
      | rfl
    · refine wx_tin C 104 dX10_count_1 (by rw [s1]; decide) (by rw [s1]; decide) (by rw [s1]; rfl) (by decide) ?_
      refine wx_aload_n C 0 dX10_count_104 rfl rfl ?_
      refine gf_X10_53 C dX10_count_105 ?_
      refine gf_X10_300 C dX10_count_108 ?_
      refine wx_iret C hQ dX10_count_111 ?_
      refine ⟨_, rfl, rfl, hC.gC, ?_⟩
      rw [s1]
      first
      | exact hC.n.1
      | exact hC.e.1
      | exact hC.a.2.2.1
      | rfl
  · refine wx_tout C 112 dX10_count_1 (sw_out8 s1) (by decide) ?_
    refine wx_iconst C (-1) dX10_count_112 (by decide) ?_
    refine wx_iret C hQ dX10_count_113 ?_
    refine ⟨_, rfl, rfl, hC.gC, ?_⟩
    rw [if_neg (fun z => s1 (Or.inl z)), if_neg (fun z => s1 (Or.inr (Or.inl z))), if_neg (fun z => s1 (Or.inr (Or.inr (Or.inl z)))), if_neg (fun z => s1 (Or.inr (Or.inr (Or.inr (Or.inl z))))), if_neg (fun z => s1 (Or.inr (Or.inr (Or.inr (Or.inr (Or.inl z)))))), if_neg (fun z => s1 (Or.inr (Or.inr (Or.inr (Or.inr (Or.inr (Or.inl z))))))), if_neg (fun z => s1 (Or.inr (Or.inr (Or.inr (Or.inr (Or.inr (Or.inr (Or.inl z)))))))), if_neg (fun z => s1 (Or.inr (Or.inr (Or.inr (Or.inr (Or.inr (Or.inr (Or.inr z))))))))]
