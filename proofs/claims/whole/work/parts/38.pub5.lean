/-! ===== NightDots: path, heap, ahead, tellOff, fit, miss ===== -/
theorem inW_p {x : Int32} {k : Nat} (hk : k < 2 ^ 30) : inW x 0 (nI k - 1) = dHas k x := by
  unfold inW dHas
  congr 1
  have hr := fb_rng x
  by_cases h0 : k = 0
  · subst h0
    rw [i_le x, i_lt x, show (nI 0 - 1).toInt = -1 from rfl, show (nI 0).toInt = 0 from rfl]
    apply propext
    rw [i_le, show (0 : Int32).toInt = 0 from rfl]
    omega
  · rw [show nI k - 1 = nI (k - 1) from pk_sub (b := 1) (by omega), i_le x, i_lt x, nI_toInt (by omega), nI_toInt (by omega)]
    apply propext
    constructor
    · intro z; exact ⟨z.1, by have := z.2; omega⟩
    · intro z; exact ⟨z.1, by have := z.2; omega⟩
theorem dHas_t {x : Int32} {k : Nat} (hk : k < 2 ^ 30) (h : dHas k x = true) : ∃ p, p < k ∧ x = nI p := by
  unfold dHas at h
  rw [decide_eq_true_eq] at h
  exact in_of (by omega) h.1 h.2
/-- what path tells of path p -/
def pthV (nm go : Int32) (l : Nat) (f : Nat → Int32) (s : Bool) (k : Int32) : Int32 := if k = 0 then nm else if k = 1 then (if go = 0 then nI l else 0) else if k = 2 then (if go = 0 then bI s else 0) else if k = 3 then (if go = 0 then 0 else 1) else if go = 0 then dotW f l k else -1
set_option maxHeartbeats 4000000 in
set_option maxRecDepth 100000 in
theorem t_X10_path (G : g_G) (M : g_M) (L : g_L) (x k : Int32) {n e nx kp : Nat} {ln : Nat → Nat} {rf : Nat → Nat → Nat} (hC : cI M n e nx kp ln rf) : mt G yX10_path (Cond.code yX10_path cX10_path 4 (some .int)) 6 [.ref (G.1 + 0), .int x, .int k] M L (qI fun v M' L' => L = L' ∧ ((dHas e x = false ∧ v = -1 ∧ gC M M' n) ∨ ∃ p, p < e ∧ x = nI p ∧ gC M M' n ∧ v = pthV (M (18 + 3 * p) 0) (M (18 + 3 * p) 1) (ln p) (M (20 + 3 * p)) (snd M (rf p) (ln p)) k)) := by
  refine mt_of (by decide) rfl (Nat.le_of_ble_eq_true rfl) [(0, .ref (G.1 + 0)), (1, .int x), (2, .int k)] rfl (fun X hG C hQ => ?_)
  subst hG
  refine wx_iload_n C 1 dX10_path_0 rfl rfl ?_
  refine wx_iconst C 0 dX10_path_1 (by decide) ?_
  refine wx_aload_n C 0 dX10_path_2 rfl rfl ?_
  refine gf_X10_46 C dX10_path_3 ?_
  refine gf_X10_189 C dX10_path_6 ?_
  refine wx_iconst C 1 dX10_path_9 (by decide) ?_
  refine wx_isub C dX10_path_10 ?_
  refine ca_X10_71 C (rest := []) (t_X10_isWithin X.1 M L x 0 (M 16 2 - 1)) (by decide) rfl rfl (Nat.le_of_ble_eq_true rfl) dX10_path_11 (kI fun r11 M11 L11 q11 => ?_)
  obtain ⟨rfl, rfl, rfl⟩ := q11
  refine wx_if_ne C 19 dX10_path_14 (by decide) (fun c14 => ?_) (fun c14 => ?_)
  · have h12 := hC.e.2
    have hin := bI_n0.mp c14
    rw [hC.e.1, inW_p (by omega)] at hin
    obtain ⟨p, hp, rfl⟩ := dHas_t (by omega) hin
    have hp12 : p < 12 := by omega
    obtain ⟨hrp, h8⟩ := hC.r hp12
    refine wx_aload_n C 0 dX10_path_19 rfl rfl ?_
    refine gf_X10_46 C dX10_path_20 ?_
    refine gf_X10_167 C dX10_path_23 ?_
    refine wx_iload_n C 1 dX10_path_26 rfl rfl ?_
    refine wx_aaldW C p dX10_path_27 rfl hp12 ?_
    refine wx_astore_n C [1, 2, 3, 0] [(0, .ref (X.1.1 + 0)), (1, .int (nI p)), (2, .int k), (3, .ref (X.1.1 + (18 + 3 * p)))] dX10_path_28 rfl (by decide) rfl ?_
    refine wx_iload_n C 2 dX10_path_29 rfl rfl ?_
    by_cases s30 : k = 0 ∨ k = 1 ∨ k = 2 ∨ k = 3
    · rcases s30 with s30 | s30 | s30 | s30
      · refine wx_tin C 60 dX10_path_30 (by rw [s30]; decide) (by rw [s30]; decide) (by rw [s30]; rfl) (by decide) ?_
        refine wx_aload_n C 3 dX10_path_60 rfl rfl ?_
        refine gf_X10_192 C hp12 dX10_path_61 ?_
        refine wx_iret C hQ dX10_path_64 ?_
        refine ⟨_, rfl, rfl, Or.inr ⟨p, hp, rfl, hC.gC, ?_⟩⟩
        unfold pthV
        first
        | (rw [if_pos s30]; done)
        | (rw [s30, if_neg (by decide), if_pos rfl]; first | (rw [if_pos c69]; exact hrp.2.1) | rw [if_neg c69])
        | (rw [s30, if_neg (by decide), if_neg (by decide), if_pos rfl]; first | rw [if_neg c88] | (rw [if_pos c88, bI_0.mp c102]; rfl) | (rw [if_pos c88, bI_n0.mp c102]; rfl))
        | (rw [s30, if_neg (by decide), if_neg (by decide), if_neg (by decide), if_pos rfl]; first | rw [if_pos c115] | rw [if_neg c115])
        | (rw [if_neg (fun z => s30 (Or.inl z)), if_neg (fun z => s30 (Or.inr (Or.inl z))), if_neg (fun z => s30 (Or.inr (Or.inr (Or.inl z)))), if_neg (fun z => s30 (Or.inr (Or.inr (Or.inr z))))]; first | rw [if_neg c128] | (rw [if_pos c128, show 19 + 3 * p + 1 = 20 + 3 * p by omega]))
      · refine wx_tin C 65 dX10_path_30 (by rw [s30]; decide) (by rw [s30]; decide) (by rw [s30]; rfl) (by decide) ?_
        refine wx_aload_n C 3 dX10_path_65 rfl rfl ?_
        refine gf_X10_195 C hp12 dX10_path_66 ?_
        refine wx_if_eq C 76 dX10_path_69 (by decide) (fun c69 => ?_) (fun c69 => ?_)
        · refine wx_aload_n C 3 dX10_path_76 rfl rfl ?_
          refine gf_X10_171 C hp12 dX10_path_77 ?_
          refine gf_X10_183 C (rw_w hp12) dX10_path_80 ?_
          refine wx_iret C hQ dX10_path_83 ?_
          refine ⟨_, rfl, rfl, Or.inr ⟨p, hp, rfl, hC.gC, ?_⟩⟩
          unfold pthV
          first
          | (rw [if_pos s30]; done)
          | (rw [s30, if_neg (by decide), if_pos rfl]; first | (rw [if_pos c69]; exact hrp.2.1) | rw [if_neg c69])
          | (rw [s30, if_neg (by decide), if_neg (by decide), if_pos rfl]; first | rw [if_neg c88] | (rw [if_pos c88, bI_0.mp c102]; rfl) | (rw [if_pos c88, bI_n0.mp c102]; rfl))
          | (rw [s30, if_neg (by decide), if_neg (by decide), if_neg (by decide), if_pos rfl]; first | rw [if_pos c115] | rw [if_neg c115])
          | (rw [if_neg (fun z => s30 (Or.inl z)), if_neg (fun z => s30 (Or.inr (Or.inl z))), if_neg (fun z => s30 (Or.inr (Or.inr (Or.inl z)))), if_neg (fun z => s30 (Or.inr (Or.inr (Or.inr z))))]; first | rw [if_neg c128] | (rw [if_pos c128, show 19 + 3 * p + 1 = 20 + 3 * p by omega]))
        · refine wx_iconst C 0 dX10_path_72 (by decide) ?_
          refine wx_goto C 83 dX10_path_73 (by decide) ?_
          refine wx_iret C hQ dX10_path_83 ?_
          refine ⟨_, rfl, rfl, Or.inr ⟨p, hp, rfl, hC.gC, ?_⟩⟩
          unfold pthV
          first
          | (rw [if_pos s30]; done)
          | (rw [s30, if_neg (by decide), if_pos rfl]; first | (rw [if_pos c69]; exact hrp.2.1) | rw [if_neg c69])
          | (rw [s30, if_neg (by decide), if_neg (by decide), if_pos rfl]; first | rw [if_neg c88] | (rw [if_pos c88, bI_0.mp c102]; rfl) | (rw [if_pos c88, bI_n0.mp c102]; rfl))
          | (rw [s30, if_neg (by decide), if_neg (by decide), if_neg (by decide), if_pos rfl]; first | rw [if_pos c115] | rw [if_neg c115])
          | (rw [if_neg (fun z => s30 (Or.inl z)), if_neg (fun z => s30 (Or.inr (Or.inl z))), if_neg (fun z => s30 (Or.inr (Or.inr (Or.inl z)))), if_neg (fun z => s30 (Or.inr (Or.inr (Or.inr z))))]; first | rw [if_neg c128] | (rw [if_pos c128, show 19 + 3 * p + 1 = 20 + 3 * p by omega]))
      · refine wx_tin C 84 dX10_path_30 (by rw [s30]; decide) (by rw [s30]; decide) (by rw [s30]; rfl) (by decide) ?_
        refine wx_aload_n C 3 dX10_path_84 rfl rfl ?_
        refine gf_X10_195 C hp12 dX10_path_85 ?_
        refine wx_if_ne C 109 dX10_path_88 (by decide) (fun c88 => ?_) (fun c88 => ?_)
        · refine wx_iconst C 0 dX10_path_109 (by decide) ?_
          refine wx_iret C hQ dX10_path_110 ?_
          refine ⟨_, rfl, rfl, Or.inr ⟨p, hp, rfl, hC.gC, ?_⟩⟩
          unfold pthV
          first
          | (rw [if_pos s30]; done)
          | (rw [s30, if_neg (by decide), if_pos rfl]; first | (rw [if_pos c69]; exact hrp.2.1) | rw [if_neg c69])
          | (rw [s30, if_neg (by decide), if_neg (by decide), if_pos rfl]; first | rw [if_neg c88] | (rw [if_pos c88, bI_0.mp c102]; rfl) | (rw [if_pos c88, bI_n0.mp c102]; rfl))
          | (rw [s30, if_neg (by decide), if_neg (by decide), if_neg (by decide), if_pos rfl]; first | rw [if_pos c115] | rw [if_neg c115])
          | (rw [if_neg (fun z => s30 (Or.inl z)), if_neg (fun z => s30 (Or.inr (Or.inl z))), if_neg (fun z => s30 (Or.inr (Or.inr (Or.inl z)))), if_neg (fun z => s30 (Or.inr (Or.inr (Or.inr z))))]; first | rw [if_neg c128] | (rw [if_pos c128, show 19 + 3 * p + 1 = 20 + 3 * p by omega]))
        · refine wx_aload_n C 0 dX10_path_91 rfl rfl ?_
          refine gf_X10_23 C dX10_path_92 ?_
          refine wx_aload_n C 3 dX10_path_95 rfl rfl ?_
          refine gf_X10_171 C hp12 dX10_path_96 ?_
          refine ca_X10_162 C (rest := []) (t_X4_isSound X.1 M L hrp hC.g) (by decide) rfl (by decide) rfl rfl (Nat.le_of_ble_eq_true rfl) dX10_path_99 (kI fun r99 M99 L99 q99 => ?_)
          obtain ⟨rfl, rfl, a99, b99, rfl⟩ := q99
          refine wx_if_eq C 109 dX10_path_102 (by decide) (fun c102 => ?_) (fun c102 => ?_)
          · refine wx_iconst C 0 dX10_path_109 (by decide) ?_
            refine wx_iret C hQ dX10_path_110 ?_
            refine ⟨_, rfl, rfl, Or.inr ⟨p, hp, rfl, hC.gC.D (frG_nt _ _ _).toD, ?_⟩⟩
            unfold pthV
            first
            | (rw [if_pos s30]; done)
            | (rw [s30, if_neg (by decide), if_pos rfl]; first | (rw [if_pos c69]; exact hrp.2.1) | rw [if_neg c69])
            | (rw [s30, if_neg (by decide), if_neg (by decide), if_pos rfl]; first | rw [if_neg c88] | (rw [if_pos c88, bI_0.mp c102]; rfl) | (rw [if_pos c88, bI_n0.mp c102]; rfl))
            | (rw [s30, if_neg (by decide), if_neg (by decide), if_neg (by decide), if_pos rfl]; first | rw [if_pos c115] | rw [if_neg c115])
            | (rw [if_neg (fun z => s30 (Or.inl z)), if_neg (fun z => s30 (Or.inr (Or.inl z))), if_neg (fun z => s30 (Or.inr (Or.inr (Or.inl z)))), if_neg (fun z => s30 (Or.inr (Or.inr (Or.inr z))))]; first | rw [if_neg c128] | (rw [if_pos c128, show 19 + 3 * p + 1 = 20 + 3 * p by omega]))
          · refine wx_iconst C 1 dX10_path_105 (by decide) ?_
            refine wx_goto C 110 dX10_path_106 (by decide) ?_
            refine wx_iret C hQ dX10_path_110 ?_
            refine ⟨_, rfl, rfl, Or.inr ⟨p, hp, rfl, hC.gC.D (frG_nt _ _ _).toD, ?_⟩⟩
            unfold pthV
            first
            | (rw [if_pos s30]; done)
            | (rw [s30, if_neg (by decide), if_pos rfl]; first | (rw [if_pos c69]; exact hrp.2.1) | rw [if_neg c69])
            | (rw [s30, if_neg (by decide), if_neg (by decide), if_pos rfl]; first | rw [if_neg c88] | (rw [if_pos c88, bI_0.mp c102]; rfl) | (rw [if_pos c88, bI_n0.mp c102]; rfl))
            | (rw [s30, if_neg (by decide), if_neg (by decide), if_neg (by decide), if_pos rfl]; first | rw [if_pos c115] | rw [if_neg c115])
            | (rw [if_neg (fun z => s30 (Or.inl z)), if_neg (fun z => s30 (Or.inr (Or.inl z))), if_neg (fun z => s30 (Or.inr (Or.inr (Or.inl z)))), if_neg (fun z => s30 (Or.inr (Or.inr (Or.inr z))))]; first | rw [if_neg c128] | (rw [if_pos c128, show 19 + 3 * p + 1 = 20 + 3 * p by omega]))
      · refine wx_tin C 111 dX10_path_30 (by rw [s30]; decide) (by rw [s30]; decide) (by rw [s30]; rfl) (by decide) ?_
        refine wx_aload_n C 3 dX10_path_111 rfl rfl ?_
        refine gf_X10_195 C hp12 dX10_path_112 ?_
        refine wx_if_eq C 122 dX10_path_115 (by decide) (fun c115 => ?_) (fun c115 => ?_)
        · refine wx_iconst C 0 dX10_path_122 (by decide) ?_
          refine wx_iret C hQ dX10_path_123 ?_
          refine ⟨_, rfl, rfl, Or.inr ⟨p, hp, rfl, hC.gC, ?_⟩⟩
          unfold pthV
          first
          | (rw [if_pos s30]; done)
          | (rw [s30, if_neg (by decide), if_pos rfl]; first | (rw [if_pos c69]; exact hrp.2.1) | rw [if_neg c69])
          | (rw [s30, if_neg (by decide), if_neg (by decide), if_pos rfl]; first | rw [if_neg c88] | (rw [if_pos c88, bI_0.mp c102]; rfl) | (rw [if_pos c88, bI_n0.mp c102]; rfl))
          | (rw [s30, if_neg (by decide), if_neg (by decide), if_neg (by decide), if_pos rfl]; first | rw [if_pos c115] | rw [if_neg c115])
          | (rw [if_neg (fun z => s30 (Or.inl z)), if_neg (fun z => s30 (Or.inr (Or.inl z))), if_neg (fun z => s30 (Or.inr (Or.inr (Or.inl z)))), if_neg (fun z => s30 (Or.inr (Or.inr (Or.inr z))))]; first | rw [if_neg c128] | (rw [if_pos c128, show 19 + 3 * p + 1 = 20 + 3 * p by omega]))
        · refine wx_iconst C 1 dX10_path_118 (by decide) ?_
          refine wx_goto C 123 dX10_path_119 (by decide) ?_
          refine wx_iret C hQ dX10_path_123 ?_
          refine ⟨_, rfl, rfl, Or.inr ⟨p, hp, rfl, hC.gC, ?_⟩⟩
          unfold pthV
          first
          | (rw [if_pos s30]; done)
          | (rw [s30, if_neg (by decide), if_pos rfl]; first | (rw [if_pos c69]; exact hrp.2.1) | rw [if_neg c69])
          | (rw [s30, if_neg (by decide), if_neg (by decide), if_pos rfl]; first | rw [if_neg c88] | (rw [if_pos c88, bI_0.mp c102]; rfl) | (rw [if_pos c88, bI_n0.mp c102]; rfl))
          | (rw [s30, if_neg (by decide), if_neg (by decide), if_neg (by decide), if_pos rfl]; first | rw [if_pos c115] | rw [if_neg c115])
          | (rw [if_neg (fun z => s30 (Or.inl z)), if_neg (fun z => s30 (Or.inr (Or.inl z))), if_neg (fun z => s30 (Or.inr (Or.inr (Or.inl z)))), if_neg (fun z => s30 (Or.inr (Or.inr (Or.inr z))))]; first | rw [if_neg c128] | (rw [if_pos c128, show 19 + 3 * p + 1 = 20 + 3 * p by omega]))
    · refine wx_tout C 124 dX10_path_30 (sw_out4 s30) (by decide) ?_
      refine wx_aload_n C 3 dX10_path_124 rfl rfl ?_
      refine gf_X10_195 C hp12 dX10_path_125 ?_
      refine wx_if_eq C 135 dX10_path_128 (by decide) (fun c128 => ?_) (fun c128 => ?_)
      · refine wx_aload_n C 3 dX10_path_135 rfl rfl ?_
        refine gf_X10_171 C hp12 dX10_path_136 ?_
        refine wx_iload_n C 2 dX10_path_139 rfl rfl ?_
        refine ca_X10_199 C (rest := []) (t_X10_dotOfRow X.1 M L hrp.1 hrp.2.1 hrp.2.2.1 k) (by decide) rfl rfl (Nat.le_of_ble_eq_true rfl) dX10_path_140 (kI fun r140 M140 L140 q140 => ?_)
        obtain ⟨rfl, rfl, rfl⟩ := q140
        refine wx_iret C hQ dX10_path_143 ?_
        refine ⟨_, rfl, rfl, Or.inr ⟨p, hp, rfl, hC.gC, ?_⟩⟩
        unfold pthV
        first
        | (rw [if_pos s30]; done)
        | (rw [s30, if_neg (by decide), if_pos rfl]; first | (rw [if_pos c69]; exact hrp.2.1) | rw [if_neg c69])
        | (rw [s30, if_neg (by decide), if_neg (by decide), if_pos rfl]; first | rw [if_neg c88] | (rw [if_pos c88, bI_0.mp c102]; rfl) | (rw [if_pos c88, bI_n0.mp c102]; rfl))
        | (rw [s30, if_neg (by decide), if_neg (by decide), if_neg (by decide), if_pos rfl]; first | rw [if_pos c115] | rw [if_neg c115])
        | (rw [if_neg (fun z => s30 (Or.inl z)), if_neg (fun z => s30 (Or.inr (Or.inl z))), if_neg (fun z => s30 (Or.inr (Or.inr (Or.inl z)))), if_neg (fun z => s30 (Or.inr (Or.inr (Or.inr z))))]; first | rw [if_neg c128] | (rw [if_pos c128, show 19 + 3 * p + 1 = 20 + 3 * p by omega]))
      · refine wx_iconst C (-1) dX10_path_131 (by decide) ?_
        refine wx_goto C 143 dX10_path_132 (by decide) ?_
        refine wx_iret C hQ dX10_path_143 ?_
        refine ⟨_, rfl, rfl, Or.inr ⟨p, hp, rfl, hC.gC, ?_⟩⟩
        unfold pthV
        first
        | (rw [if_pos s30]; done)
        | (rw [s30, if_neg (by decide), if_pos rfl]; first | (rw [if_pos c69]; exact hrp.2.1) | rw [if_neg c69])
        | (rw [s30, if_neg (by decide), if_neg (by decide), if_pos rfl]; first | rw [if_neg c88] | (rw [if_pos c88, bI_0.mp c102]; rfl) | (rw [if_pos c88, bI_n0.mp c102]; rfl))
        | (rw [s30, if_neg (by decide), if_neg (by decide), if_neg (by decide), if_pos rfl]; first | rw [if_pos c115] | rw [if_neg c115])
        | (rw [if_neg (fun z => s30 (Or.inl z)), if_neg (fun z => s30 (Or.inr (Or.inl z))), if_neg (fun z => s30 (Or.inr (Or.inr (Or.inl z)))), if_neg (fun z => s30 (Or.inr (Or.inr (Or.inr z))))]; first | rw [if_neg c128] | (rw [if_pos c128, show 19 + 3 * p + 1 = 20 + 3 * p by omega]))
  · refine wx_iconst C (-1) dX10_path_17 (by decide) ?_
    refine wx_iret C hQ dX10_path_18 ?_
    have h12 := hC.e.2
    have hin := bI_0.mp c14
    rw [hC.e.1, inW_p (by omega)] at hin
    exact ⟨_, rfl, rfl, Or.inl ⟨hin, rfl, hC.gC⟩⟩
set_option maxHeartbeats 4000000 in
set_option maxRecDepth 100000 in
theorem t_X10_heap (G : g_G) (M : g_M) (L : g_L) (x : Int32) {n e nx kp : Nat} {ln : Nat → Nat} {rf : Nat → Nat → Nat} (hC : cI M n e nx kp ln rf) : mt G yX10_heap (Cond.code yX10_heap cX10_heap 2 (some .long)) 4 [.ref (G.1 + 0), .int x] M L (qL fun v M' L' => L = L' ∧ gC M M' n ∧ ((cHas M x = false ∧ v = -1) ∨ ∃ p, p < e ∧ x = nI p ∧ M (18 + 3 * p) 1 = 0 ∧ v = sumL (cLp M 0 (rf p) (ln p)) 41 * sumL (cLp M 1 (rf p) (ln p)) 41)) := by
  refine mt_of (by decide) rfl (Nat.le_of_ble_eq_true rfl) [(0, .ref (G.1 + 0)), (1, .int x)] rfl (fun X hG C hQ => ?_)
  subst hG
  refine wx_aload_n C 0 dX10_heap_0 rfl rfl ?_
  refine gf_X10_46 C dX10_heap_1 ?_
  refine wx_iload_n C 1 dX10_heap_4 rfl rfl ?_
  refine ca_X10_166 C (rest := []) (t_X9_has X.1 M L (x := x) hC.e.1 hC.e.2) (by decide) rfl (by decide) rfl rfl (Nat.le_of_ble_eq_true rfl) dX10_heap_5 (kI fun r5 M5 L5 q5 => ?_)
  obtain ⟨rfl, rfl, rfl⟩ := q5
  refine wx_if_eq C 33 dX10_heap_8 (by decide) (fun c8 => ?_) (fun c8 => ?_)
  · refine wx_ldc2 C w3_65 dX10_heap_33 ?_
    refine wx_lret C hQ dX10_heap_36 ?_
    exact ⟨_, rfl, rfl, hC.gC, Or.inl ⟨bI_0.mp c8, rfl⟩⟩
  · obtain ⟨p, hp, rfl, hgo⟩ := cHas_t hC.e.1 hC.e.2 (bI_n0.mp c8)
    have h12 := hC.e.2
    have hp12 : p < 12 := by omega
    obtain ⟨hrp, h8⟩ := hC.r hp12
    refine wx_aload_n C 0 dX10_heap_11 rfl rfl ?_
    refine gf_X10_23 C dX10_heap_12 ?_
    refine wx_aload_n C 0 dX10_heap_15 rfl rfl ?_
    refine gf_X10_46 C dX10_heap_16 ?_
    refine gf_X10_167 C dX10_heap_19 ?_
    refine wx_iload_n C 1 dX10_heap_22 rfl rfl ?_
    refine wx_aaldW C p dX10_heap_23 rfl hp12 ?_
    refine gf_X10_171 C hp12 dX10_heap_24 ?_
    refine ca_X10_203 C (rest := []) (t_X4_linesOf X.1 M L hrp hC.g) (by decide) rfl (by decide) rfl rfl (Nat.le_of_ble_eq_true rfl) dX10_heap_27 (kL fun r27 M27 L27 q27 => ?_)
    obtain ⟨rfl, rfl, a27, b27, rfl⟩ := q27
    refine wx_goto C 36 dX10_heap_30 (by decide) ?_
    refine wx_lret C hQ dX10_heap_36 ?_
    exact ⟨_, rfl, rfl, hC.gC.D (frG_nt _ _ _).toD, Or.inr ⟨p, hp, rfl, hgo, rfl⟩⟩
set_option maxHeartbeats 4000000 in
set_option maxRecDepth 100000 in
theorem t_X10_ahead (G : g_G) (M : g_M) (L : g_L) (x h k : Int32) {n e nx kp : Nat} {ln : Nat → Nat} {rf : Nat → Nat → Nat} (hC : cI M n e nx kp ln rf) : mt G yX10_ahead (Cond.code yX10_ahead cX10_ahead 5 (some .long)) 5 [.ref (G.1 + 0), .int x, .int h, .int k] M L (qL fun v M' L' => L = L' ∧ gC M M' n ∧ (((cHas M x = false ∨ inW h 0 400 = false ∨ inW k 0 3 = false) ∧ v = NO) ∨ (inW h 0 400 = true ∧ inW k 0 3 = true ∧ ∃ p, p < e ∧ x = nI p ∧ M (18 + 3 * p) 1 = 0 ∧ v = (if snd M (rf p) (ln p) then edS (cLp M (if 2 ≤ k then 1 else 0) (rf p) (ln p)) h (decide (k - k / 2 * 2 = 1)) 41 else NO)))) := by
  refine mt_of (by decide) rfl (Nat.le_of_ble_eq_true rfl) [(0, .ref (G.1 + 0)), (1, .int x), (2, .int h), (3, .int k)] rfl (fun X hG C hQ => ?_)
  subst hG
  refine wx_aload_n C 0 dX10_ahead_0 rfl rfl ?_
  refine gf_X10_46 C dX10_ahead_1 ?_
  refine wx_iload_n C 1 dX10_ahead_4 rfl rfl ?_
  refine ca_X10_166 C (rest := []) (t_X9_has X.1 M L (x := x) hC.e.1 hC.e.2) (by decide) rfl (by decide) rfl rfl (Nat.le_of_ble_eq_true rfl) dX10_ahead_5 (kI fun r5 M5 L5 q5 => ?_)
  obtain ⟨rfl, rfl, rfl⟩ := q5
  refine wx_if_eq C 31 dX10_ahead_8 (by decide) (fun c8 => ?_) (fun c8 => ?_)
  · refine wx_ldc2 C w3_70 dX10_ahead_31 ?_
    refine wx_lret C hQ dX10_ahead_34 ?_
    refine ⟨_, rfl, rfl, hC.gC, Or.inl ⟨?_, rfl⟩⟩
    first
    | exact Or.inl (bI_0.mp c8)
    | exact Or.inr (Or.inl (bI_0.mp c19))
    | exact Or.inr (Or.inr (bI_0.mp c28))
  · refine wx_iload_n C 2 dX10_ahead_11 rfl rfl ?_
    refine wx_iconst C 0 dX10_ahead_12 (by decide) ?_
    refine wx_sipush C 400 dX10_ahead_13 (by decide) ?_
    refine ca_X10_71 C (rest := []) (t_X10_isWithin X.1 M L h 0 400) (by decide) rfl rfl (Nat.le_of_ble_eq_true rfl) dX10_ahead_16 (kI fun r16 M16 L16 q16 => ?_)
    obtain ⟨rfl, rfl, rfl⟩ := q16
    refine wx_if_eq C 31 dX10_ahead_19 (by decide) (fun c19 => ?_) (fun c19 => ?_)
    · refine wx_ldc2 C w3_70 dX10_ahead_31 ?_
      refine wx_lret C hQ dX10_ahead_34 ?_
      refine ⟨_, rfl, rfl, hC.gC, Or.inl ⟨?_, rfl⟩⟩
      first
      | exact Or.inl (bI_0.mp c8)
      | exact Or.inr (Or.inl (bI_0.mp c19))
      | exact Or.inr (Or.inr (bI_0.mp c28))
    · refine wx_iload_n C 3 dX10_ahead_22 rfl rfl ?_
      refine wx_iconst C 0 dX10_ahead_23 (by decide) ?_
      refine wx_iconst C 3 dX10_ahead_24 (by decide) ?_
      refine ca_X10_71 C (rest := []) (t_X10_isWithin X.1 M L k 0 3) (by decide) rfl rfl (Nat.le_of_ble_eq_true rfl) dX10_ahead_25 (kI fun r25 M25 L25 q25 => ?_)
      obtain ⟨rfl, rfl, rfl⟩ := q25
      refine wx_if_ne C 35 dX10_ahead_28 (by decide) (fun c28 => ?_) (fun c28 => ?_)
      · obtain ⟨p, hp, rfl, hgo⟩ := cHas_t hC.e.1 hC.e.2 (bI_n0.mp c8)
        have h12 := hC.e.2
        have hp12 : p < 12 := by omega
        obtain ⟨hrp, h8⟩ := hC.r hp12
        refine wx_aload_n C 0 dX10_ahead_35 rfl rfl ?_
        refine gf_X10_46 C dX10_ahead_36 ?_
        refine gf_X10_167 C dX10_ahead_39 ?_
        refine wx_iload_n C 1 dX10_ahead_42 rfl rfl ?_
        refine wx_aaldW C p dX10_ahead_43 rfl hp12 ?_
        refine gf_X10_171 C hp12 dX10_ahead_44 ?_
        refine wx_astore C [1, 2, 3, 4, 0] [(0, .ref (X.1.1 + 0)), (1, .int (nI p)), (2, .int h), (3, .int k), (4, .ref (X.1.1 + (19 + 3 * p)))] dX10_ahead_47 (by decide) rfl ?_
        refine wx_aload_n C 0 dX10_ahead_49 rfl rfl ?_
        refine gf_X10_23 C dX10_ahead_50 ?_
        refine wx_aload C 4 dX10_ahead_53 rfl ?_
        refine ca_X10_162 C (rest := []) (t_X4_isSound X.1 M L hrp hC.g) (by decide) rfl (by decide) rfl rfl (Nat.le_of_ble_eq_true rfl) dX10_ahead_55 (kI fun r55 M55 L55 q55 => ?_)
        obtain ⟨rfl, rfl, a55, b55, rfl⟩ := q55
        refine wx_if_ne C 65 dX10_ahead_58 (by decide) (fun c58 => ?_) (fun c58 => ?_)
        · refine wx_aload_n C 0 dX10_ahead_65 rfl rfl ?_
          refine gf_X10_23 C dX10_ahead_66 ?_
          refine wx_aload C 4 dX10_ahead_69 rfl ?_
          refine wx_iload_n C 3 dX10_ahead_71 rfl rfl ?_
          refine wx_iconst C 2 dX10_ahead_72 (by decide) ?_
          refine wx_icmp_ge C 80 dX10_ahead_73 (by decide) (fun c73 => ?_) (fun c73 => ?_)
          · refine wx_iconst C 1 dX10_ahead_80 (by decide) ?_
            refine wx_iload_n C 2 dX10_ahead_81 rfl rfl ?_
            refine wx_iload_n C 3 dX10_ahead_82 rfl rfl ?_
            refine wx_iconst C 2 dX10_ahead_83 (by decide) ?_
            refine wx_irem C dX10_ahead_84 (by decide) ?_
            refine wx_iconst C 1 dX10_ahead_85 (by decide) ?_
            refine wx_icmp_ne C 93 dX10_ahead_86 (by decide) (fun c86 => ?_) (fun c86 => ?_)
            · refine wx_iconst C 0 dX10_ahead_93 (by decide) ?_
              refine ca_X10_211 C (rest := []) (t_edge2 X.1 M L hrp hC.g a55 b55 1 h false) (by decide) rfl (by decide) rfl rfl (Nat.le_of_ble_eq_true rfl) dX10_ahead_94 (kL fun r94 M94 L94 q94 => ?_)
              obtain ⟨rfl, rfl, a94, b94, rfl⟩ := q94
              refine wx_lret C hQ dX10_ahead_97 ?_
              refine ⟨_, rfl, rfl, hC.gC.D (frG_nt _ _ _).toD, Or.inr ⟨bI_n0.mp c19, bI_n0.mp c28, p, hp, rfl, hgo, ?_⟩⟩
              rw [if_pos (bI_n0.mp c58)]
              first
              | rw [if_pos c73, decide_eq_true c86]
              | rw [if_pos c73, decide_eq_false c86]
              | rw [if_neg c73, decide_eq_true c86]
              | rw [if_neg c73, decide_eq_false c86]
            · refine wx_iconst C 1 dX10_ahead_89 (by decide) ?_
              refine wx_goto C 94 dX10_ahead_90 (by decide) ?_
              refine ca_X10_211 C (rest := []) (t_edge2 X.1 M L hrp hC.g a55 b55 1 h true) (by decide) rfl (by decide) rfl rfl (Nat.le_of_ble_eq_true rfl) dX10_ahead_94 (kL fun r94 M94 L94 q94 => ?_)
              obtain ⟨rfl, rfl, a94, b94, rfl⟩ := q94
              refine wx_lret C hQ dX10_ahead_97 ?_
              refine ⟨_, rfl, rfl, hC.gC.D (frG_nt _ _ _).toD, Or.inr ⟨bI_n0.mp c19, bI_n0.mp c28, p, hp, rfl, hgo, ?_⟩⟩
              rw [if_pos (bI_n0.mp c58)]
              first
              | rw [if_pos c73, decide_eq_true c86]
              | rw [if_pos c73, decide_eq_false c86]
              | rw [if_neg c73, decide_eq_true c86]
              | rw [if_neg c73, decide_eq_false c86]
          · refine wx_iconst C 0 dX10_ahead_76 (by decide) ?_
            refine wx_goto C 81 dX10_ahead_77 (by decide) ?_
            refine wx_iload_n C 2 dX10_ahead_81 rfl rfl ?_
            refine wx_iload_n C 3 dX10_ahead_82 rfl rfl ?_
            refine wx_iconst C 2 dX10_ahead_83 (by decide) ?_
            refine wx_irem C dX10_ahead_84 (by decide) ?_
            refine wx_iconst C 1 dX10_ahead_85 (by decide) ?_
            refine wx_icmp_ne C 93 dX10_ahead_86 (by decide) (fun c86 => ?_) (fun c86 => ?_)
            · refine wx_iconst C 0 dX10_ahead_93 (by decide) ?_
              refine ca_X10_211 C (rest := []) (t_edge2 X.1 M L hrp hC.g a55 b55 0 h false) (by decide) rfl (by decide) rfl rfl (Nat.le_of_ble_eq_true rfl) dX10_ahead_94 (kL fun r94 M94 L94 q94 => ?_)
              obtain ⟨rfl, rfl, a94, b94, rfl⟩ := q94
              refine wx_lret C hQ dX10_ahead_97 ?_
              refine ⟨_, rfl, rfl, hC.gC.D (frG_nt _ _ _).toD, Or.inr ⟨bI_n0.mp c19, bI_n0.mp c28, p, hp, rfl, hgo, ?_⟩⟩
              rw [if_pos (bI_n0.mp c58)]
              first
              | rw [if_pos c73, decide_eq_true c86]
              | rw [if_pos c73, decide_eq_false c86]
              | rw [if_neg c73, decide_eq_true c86]
              | rw [if_neg c73, decide_eq_false c86]
            · refine wx_iconst C 1 dX10_ahead_89 (by decide) ?_
              refine wx_goto C 94 dX10_ahead_90 (by decide) ?_
              refine ca_X10_211 C (rest := []) (t_edge2 X.1 M L hrp hC.g a55 b55 0 h true) (by decide) rfl (by decide) rfl rfl (Nat.le_of_ble_eq_true rfl) dX10_ahead_94 (kL fun r94 M94 L94 q94 => ?_)
              obtain ⟨rfl, rfl, a94, b94, rfl⟩ := q94
              refine wx_lret C hQ dX10_ahead_97 ?_
              refine ⟨_, rfl, rfl, hC.gC.D (frG_nt _ _ _).toD, Or.inr ⟨bI_n0.mp c19, bI_n0.mp c28, p, hp, rfl, hgo, ?_⟩⟩
              rw [if_pos (bI_n0.mp c58)]
              first
              | rw [if_pos c73, decide_eq_true c86]
              | rw [if_pos c73, decide_eq_false c86]
              | rw [if_neg c73, decide_eq_true c86]
              | rw [if_neg c73, decide_eq_false c86]
        · refine wx_ldc2 C w3_70 dX10_ahead_61 ?_
          refine wx_lret C hQ dX10_ahead_64 ?_
          exact ⟨_, rfl, rfl, hC.gC.D (frG_nt _ _ _).toD, Or.inr ⟨bI_n0.mp c19, bI_n0.mp c28, p, hp, rfl, hgo, by rw [if_neg (by rw [bI_0.mp c58]; decide)]; rfl⟩⟩
      · refine wx_ldc2 C w3_70 dX10_ahead_31 ?_
        refine wx_lret C hQ dX10_ahead_34 ?_
        refine ⟨_, rfl, rfl, hC.gC, Or.inl ⟨?_, rfl⟩⟩
        first
        | exact Or.inl (bI_0.mp c8)
        | exact Or.inr (Or.inl (bI_0.mp c19))
        | exact Or.inr (Or.inr (bI_0.mp c28))
/-- the only one of n from i on that has R; none: -1 -/
def tfS (R : Nat → Bool) : Nat → Nat → Int32 → Int32
  | _, 0, b => b
  | i, n + 1, b => if R i then (if b = -1 then tfS R (i + 1) n (nI i) else -1) else tfS R (i + 1) n b
def cRch (M : g_M) (ln : Nat → Nat) (rf : Nat → Nat → Nat) (d p : Nat) : Bool := decide (M (18 + 3 * p) 1 = 0) && rch M (rf p) (ln p) d
theorem t_reaches2 (G : g_G) (M : g_M) (L : g_L) {k l e : Nat} {r : Nat → Nat} (hk : rok M k l r) (hg0 : 1 ≤ (M 7 1).toInt) {x : Int32} (hx : x = nI e) (he : e < 60) (a b : Int32) : mt G yX4_reaches (Cond.code yX4_reaches cX4_reaches 3 (some .boolean)) 4 [.ref (G.1 + 7), .ref (G.1 + k), .int x] (nt M a b) L (qI fun v M' L' => L = L' ∧ v = bI (rch M r l e) ∧ ∃ a b, M' = nt M a b) := by
  refine mt_mono (t_X4_reaches G (nt M a b) L (hk.nt a b) hg0 hx he) (fun r M1 L1 h => ?_)
  obtain ⟨u, e, h1, h2, a1, b1, h3⟩ := h
  rw [nt_nt] at h3
  exact ⟨u, e, h1, h2, a1, b1, h3⟩
set_option maxHeartbeats 4000000 in
set_option maxRecDepth 100000 in
theorem lp_X10_tellOff {X : g_X} {Qr : Option Value → g_M → g_L → Prop} (C : Cx X cX10_tellOff 4 RX10 (some .int) 5) (hQ : Rx X Qr) {M : g_M} {L : g_L} {n e nx kp : Nat} {ln : Nat → Nat} {rf : Nat → Nat → Nat} (hC : cI M n e nx kp ln rf) {d : Nat} (hd : d < 60) : ∀ (n i : Nat), i ≤ e → e < i + n → ∀ (a b bs : Int32), (∀ a b, Qr (some (.int (tfS (cRch M ln rf d) i (e - i) bs))) (nt M a b) L) → wx X (nt M a b) L 28 [(0, .ref (X.1.1 + 0)), (1, .int (nI d)), (2, .int bs), (3, .int (nI i))] [] := by
  intro n
  induction n with
  | zero =>
    intro i h1 h2
    exact absurd h2 (by omega)
  | succ n ih =>
    intro i hi0 hin a b bs hp
    have h12 := hC.e.2
    have he0 : nt M a b 16 2 = nI e := hC.e.1
    refine wx_iload_n C 3 dX10_tellOff_28 rfl rfl ?_
    refine wx_aload_n C 0 dX10_tellOff_29 rfl rfl ?_
    refine gf_X10_46 C dX10_tellOff_30 ?_
    refine gf_X10_189 C dX10_tellOff_33 ?_
    refine wx_icmp_ge C 88 dX10_tellOff_36 (by decide) (fun c36 => ?_) (fun c36 => ?_)
    · have hib : i = e := by
        rw [he0] at c36
        exact Nat.le_antisymm hi0 ((nI_leI (by omega) (by omega)).mp c36)
      refine wx_iload_n C 2 dX10_tellOff_88 rfl rfl ?_
      refine wx_iret C hQ dX10_tellOff_89 ?_
      have h := hp a b
      rw [hib, Nat.sub_self, tfS] at h
      exact h
    · have hi : i < e := by
        rw [he0] at c36
        exact Nat.lt_of_not_le (fun h => c36 ((nI_leI (by omega) (by omega)).mpr h))
      have hrp := (hC.r (show i < 12 by omega)).1
      rw [show e - i = (e - (i + 1)) + 1 by omega] at hp
      simp only [tfS] at hp
      refine wx_aload_n C 0 dX10_tellOff_39 rfl rfl ?_
      refine gf_X10_46 C dX10_tellOff_40 ?_
      refine wx_iload_n C 3 dX10_tellOff_43 rfl rfl ?_
      refine ca_X10_166 C (rest := []) (t_X9_has X.1 (nt M a b) L (x := nI i) he0 h12) (by decide) rfl (by decide) rfl rfl (Nat.le_of_ble_eq_true rfl) dX10_tellOff_44 (kI fun r44 M44 L44 q44 => ?_)
      obtain ⟨rfl, rfl, rfl⟩ := q44
      rw [cHas_n he0 h12 hi]
      rw [show nt M a b (18 + 3 * i) 1 = M (18 + 3 * i) 1 from congrFun (nt_o M a b (by omega)) 1]
      refine wx_if_eq C 82 dX10_tellOff_47 (by decide) (fun c47 => ?_) (fun c47 => ?_)
      · refine wx_iinc C (v := (nI (i + 1))) 3 [1, 2, 3, 0] [(0, .ref (X.1.1 + 0)), (1, .int (nI d)), (2, .int bs), (3, .int (nI (i + 1)))] dX10_tellOff_82 rfl (nI_1 _) (by decide) rfl ?_
        refine wx_goto C 28 dX10_tellOff_85 (by decide) ?_
        have hR : cRch M ln rf d i = false := by
          unfold cRch
          first
          | rw [bI_0.mp c47, Bool.false_and]
          | rw [bI_0.mp c70, Bool.and_false]
        refine ih (i + 1) (by omega) (by omega) _ _ bs (fun a b => ?_)
        have h := hp a b
        rw [if_neg (by rw [hR]; decide)] at h
        exact h
      · refine wx_aload_n C 0 dX10_tellOff_50 rfl rfl ?_
        refine gf_X10_23 C dX10_tellOff_51 ?_
        refine wx_aload_n C 0 dX10_tellOff_54 rfl rfl ?_
        refine gf_X10_46 C dX10_tellOff_55 ?_
        refine gf_X10_167 C dX10_tellOff_58 ?_
        refine wx_iload_n C 3 dX10_tellOff_61 rfl rfl ?_
        refine wx_aaldW C i dX10_tellOff_62 rfl (by omega) ?_
        refine gf_X10_171 C (by omega) dX10_tellOff_63 ?_
        refine wx_iload_n C 1 dX10_tellOff_66 rfl rfl ?_
        refine ca_X10_215 C (rest := []) (t_reaches2 X.1 M L hrp hC.g rfl hd a b) (by decide) rfl (by decide) rfl rfl (Nat.le_of_ble_eq_true rfl) dX10_tellOff_67 (kI fun r67 M67 L67 q67 => ?_)
        obtain ⟨rfl, rfl, a67, b67, rfl⟩ := q67
        refine wx_if_eq C 82 dX10_tellOff_70 (by decide) (fun c70 => ?_) (fun c70 => ?_)
        · refine wx_iinc C (v := (nI (i + 1))) 3 [1, 2, 3, 0] [(0, .ref (X.1.1 + 0)), (1, .int (nI d)), (2, .int bs), (3, .int (nI (i + 1)))] dX10_tellOff_82 rfl (nI_1 _) (by decide) rfl ?_
          refine wx_goto C 28 dX10_tellOff_85 (by decide) ?_
          have hR : cRch M ln rf d i = false := by
            unfold cRch
            first
            | rw [bI_0.mp c47, Bool.false_and]
            | rw [bI_0.mp c70, Bool.and_false]
          refine ih (i + 1) (by omega) (by omega) _ _ bs (fun a b => ?_)
          have h := hp a b
          rw [if_neg (by rw [hR]; decide)] at h
          exact h
        · refine wx_iload_n C 2 dX10_tellOff_73 rfl rfl ?_
          refine wx_iconst C (-1) dX10_tellOff_74 (by decide) ?_
          refine wx_icmp_eq C 80 dX10_tellOff_75 (by decide) (fun c75 => ?_) (fun c75 => ?_)
          · refine wx_iload_n C 3 dX10_tellOff_80 rfl rfl ?_
            refine wx_istore_n C [1, 2, 0, 3] [(0, .ref (X.1.1 + 0)), (1, .int (nI d)), (2, .int (nI i)), (3, .int (nI i))] dX10_tellOff_81 rfl (by decide) rfl ?_
            refine wx_iinc C (v := (nI (i + 1))) 3 [1, 2, 3, 0] [(0, .ref (X.1.1 + 0)), (1, .int (nI d)), (2, .int (nI i)), (3, .int (nI (i + 1)))] dX10_tellOff_82 rfl (nI_1 _) (by decide) rfl ?_
            refine wx_goto C 28 dX10_tellOff_85 (by decide) ?_
            have hR : cRch M ln rf d i = true := by
              unfold cRch
              rw [bI_n0.mp c47, bI_n0.mp c70]
              rfl
            refine ih (i + 1) (by omega) (by omega) _ _ _ (fun a b => ?_)
            have h := hp a b
            rw [if_pos hR, if_pos c75] at h
            exact h
          · refine wx_iconst C (-1) dX10_tellOff_78 (by decide) ?_
            refine wx_iret C hQ dX10_tellOff_79 ?_
            have hR : cRch M ln rf d i = true := by
              unfold cRch
              rw [bI_n0.mp c47, bI_n0.mp c70]
              rfl
            have h := hp a67 b67
            rw [if_pos hR, if_neg c75] at h
            exact h
set_option maxHeartbeats 4000000 in
set_option maxRecDepth 100000 in
theorem t_X10_tellOff (G : g_G) (M : g_M) (L : g_L) (y : Int32) {n e nx kp : Nat} {ln : Nat → Nat} {rf : Nat → Nat → Nat} (hC : cI M n e nx kp ln rf) : mt G yX10_tellOff (Cond.code yX10_tellOff cX10_tellOff 4 (some .int)) 5 [.ref (G.1 + 0), .int y] M L (qI fun v M' L' => L = L' ∧ gC M M' n ∧ ((dHas n y = false ∧ v = -1) ∨ ∃ d, d < n ∧ y = nI d ∧ ((¬ M 6 d = -1 ∧ v = -1) ∨ (M 6 d = -1 ∧ v = tfS (cRch M ln rf d) 0 e (-1))))) := by
  refine mt_of (by decide) rfl (Nat.le_of_ble_eq_true rfl) [(0, .ref (G.1 + 0)), (1, .int y)] rfl (fun X hG C hQ => ?_)
  subst hG
  refine wx_aload_n C 0 dX10_tellOff_0 rfl rfl ?_
  refine gf_X10_14 C dX10_tellOff_1 ?_
  refine wx_iload_n C 1 dX10_tellOff_4 rfl rfl ?_
  refine ca_X10_99 C (rest := []) (t_X7_has X.1 M L y) (by decide) rfl (by decide) rfl rfl (Nat.le_of_ble_eq_true rfl) dX10_tellOff_5 (kI fun r5 M5 L5 q5 => ?_)
  obtain ⟨rfl, rfl, rfl⟩ := q5
  refine wx_if_eq C 22 dX10_tellOff_8 (by decide) (fun c8 => ?_) (fun c8 => ?_)
  · refine wx_iconst C (-1) dX10_tellOff_22 (by decide) ?_
    refine wx_iret C hQ dX10_tellOff_23 ?_
    first
    | exact ⟨_, rfl, rfl, hC.gC, Or.inl ⟨by unfold dHas; rw [← hC.n.1]; exact bI_0.mp c8, rfl⟩⟩
    | exact ⟨_, rfl, rfl, hC.gC, Or.inr ⟨d, hd, rfl, Or.inl ⟨of_decide_eq_false (bI_0.mp c19), rfl⟩⟩⟩
  · have hh := of_decide_eq_true (bI_n0.mp c8)
    rw [hC.n.1] at hh
    have h60 := hC.n.2
    obtain ⟨d, hd, rfl⟩ := in_of (by omega) hh.1 hh.2
    refine wx_aload_n C 0 dX10_tellOff_11 rfl rfl ?_
    refine gf_X10_14 C dX10_tellOff_12 ?_
    refine wx_iload_n C 1 dX10_tellOff_15 rfl rfl ?_
    refine ca_X10_159 C (rest := []) (t_X7_isFree X.1 M L (e := d) rfl (by omega)) (by decide) rfl (by decide) rfl rfl (Nat.le_of_ble_eq_true rfl) dX10_tellOff_16 (kI fun r16 M16 L16 q16 => ?_)
    obtain ⟨rfl, rfl, rfl⟩ := q16
    refine wx_if_ne C 24 dX10_tellOff_19 (by decide) (fun c19 => ?_) (fun c19 => ?_)
    · refine wx_iconst C (-1) dX10_tellOff_24 (by decide) ?_
      refine wx_istore_n C [1, 2, 0] [(0, .ref (X.1.1 + 0)), (1, .int (nI d)), (2, .int (-1))] dX10_tellOff_25 rfl (by decide) rfl ?_
      refine wx_iconst C 0 dX10_tellOff_26 (by decide) ?_
      refine wx_istore_n C [1, 2, 3, 0] [(0, .ref (X.1.1 + 0)), (1, .int (nI d)), (2, .int (-1)), (3, .int 0)] dX10_tellOff_27 rfl (by decide) rfl ?_
      have h := lp_X10_tellOff C hQ hC (d := d) (by omega) (e + 1) 0 (by omega) (by omega) (M 7 3) (M 7 4) (-1) (fun a b => ⟨_, rfl, rfl, hC.gC.D (frG_nt _ _ _).toD, Or.inr ⟨d, hd, rfl, Or.inr ⟨of_decide_eq_true (bI_n0.mp c19), rfl⟩⟩⟩)
      rw [nt_self] at h
      exact h
    · refine wx_iconst C (-1) dX10_tellOff_22 (by decide) ?_
      refine wx_iret C hQ dX10_tellOff_23 ?_
      first
      | exact ⟨_, rfl, rfl, hC.gC, Or.inl ⟨by unfold dHas; rw [← hC.n.1]; exact bI_0.mp c8, rfl⟩⟩
      | exact ⟨_, rfl, rfl, hC.gC, Or.inr ⟨d, hd, rfl, Or.inl ⟨of_decide_eq_false (bI_0.mp c19), rfl⟩⟩⟩
