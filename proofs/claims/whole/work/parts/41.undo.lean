/-! ===== NightDots: undo ===== -/
theorem wx_astore_nN {X : g_X} {cc : ByteArray} {nL : Nat} {own : String} {ret : Option FieldType} {d : Nat} {M : g_M} {L : g_L} {pc : Nat} {lv : List (Nat × Value)} {st : List Value} (C : Cx X cc nL own ret d) {k : Fin 4} {i : Nat} (ks : List Nat) (lv' : List (Nat × Value)) (hd : decode cc pc = .ok (.astore_n k, 1)) (hi : (k : Nat) = i) (hn : i < nL) (hl : lv_pick (lx1 lv i .null) ks = lv') (kk : wx X M L (pc + 1) lv' st) : wx X M L pc lv (.null :: st) := fun H locs ls hH hS h => lv_astore_nN C.hx C.hb hd hi h (by rw [C.hn]; exact hn) rfl (fun ls' h' => kk H locs ls' hH hS (lv_sub h' ks hl))
/-- the act at place j of the ring: its path, the row before, the path that it swallowed -/
def actU (M : g_M) (j p lb : Nat) (rb : Nat → Nat) (sw : Option Nat) : Prop := j < 30 ∧ M (56 + 3 * j) 0 = nI p ∧ p < 12 ∧ rok M (57 + 3 * j) lb rb ∧ ((M (56 + 3 * j) 2 = -1 ∧ sw = none) ∨ ∃ g, sw = some g ∧ M (56 + 3 * j) 2 = nI g ∧ g < 12 ∧ g ≠ p)
def un1 (M : g_M) (j kp : Nat) : g_M := g_st (g_st M 54 1 (nI j)) 54 2 (nI (kp - 1))
def un2 (M : g_M) (j kp p lb : Nat) (rb : Nat → Nat) (ln : Nat → Nat) (rf : Nat → Nat → Nat) : g_M := rpl (un1 M j kp) p (ln p) lb (rf p) rb (M (58 + 3 * j))
def un3 (M : g_M) (j kp p lb : Nat) (rb : Nat → Nat) (ln : Nat → Nat) (rf : Nat → Nat → Nat) : g_M := if M (56 + 3 * j) 1 = 0 then un2 M j kp p lb rb ln rf else g_st (un2 M j kp p lb rb ln rf) (18 + 3 * p) 1 1
def un4 (M : g_M) (j kp p lb : Nat) (rb : Nat → Nat) (sw : Option Nat) (ln : Nat → Nat) (rf : Nat → Nat → Nat) : g_M := match sw with
  | none => un3 M j kp p lb rb ln rf
  | some g => pa (g_st (un3 M j kp p lb rb ln rf) (18 + 3 * g) 1 0) (rf g) (nI g) (ln g)
def undM (M : g_M) (j kp p lb : Nat) (rb : Nat → Nat) (sw : Option Nat) (ln : Nat → Nat) (rf : Nat → Nat → Nat) : g_M := g_st (un4 M j kp p lb rb sw ln rf) 9 10 0
theorem un1_o (M : g_M) {j kp a : Nat} (h : a ≠ 54) : un1 M j kp a = M a := by
  funext b
  unfold un1
  rw [g_st_ap, if_neg (by omega), g_st_ap, if_neg (by omega)]
theorem un2_o (M : g_M) {j kp p lb : Nat} {rb : Nat → Nat} {ln : Nat → Nat} {rf : Nat → Nat → Nat} {a : Nat} (h : a ≠ 54) (h1 : a ≠ 6) (h2 : a ≠ 19 + 3 * p) (h3 : a ≠ 20 + 3 * p) : un2 M j kp p lb rb ln rf a = M a := by
  unfold un2
  rw [rpl_o _ h1 h2 h3, un1_o M h]
theorem un2_54 (M : g_M) {j kp p lb : Nat} {rb : Nat → Nat} {ln : Nat → Nat} {rf : Nat → Nat → Nat} (hp : p < 12) : un2 M j kp p lb rb ln rf 54 2 = nI (kp - 1) := by
  unfold un2
  rw [rpl_o _ (by decide) (by omega) (by omega)]
  unfold un1
  rw [g_st_ap, if_pos ⟨rfl, rfl⟩]
theorem un3_o (M : g_M) {j kp p lb : Nat} {rb : Nat → Nat} {ln : Nat → Nat} {rf : Nat → Nat → Nat} {a : Nat} (h1 : a ≠ 18 + 3 * p) : un3 M j kp p lb rb ln rf a = un2 M j kp p lb rb ln rf a := by
  unfold un3
  split
  · rfl
  · funext b
    rw [g_st_ap, if_neg (by omega)]
set_option maxHeartbeats 4000000 in
set_option maxRecDepth 100000 in
theorem t_X10_undo (G : g_G) (M : g_M) (L : g_L) {n e nx kp : Nat} {ln : Nat → Nat} {rf : Nat → Nat → Nat} (hC : cI M n e nx kp ln rf) {j p lb : Nat} {rb : Nat → Nat} {sw : Option Nat} (hjx : j = (nx + 29) % 30) (hU : 0 < kp → actU M j p lb rb sw) : mt G yX10_undo (Cond.code yX10_undo cX10_undo 2 (some .int)) 4 [.ref (G.1 + 0)] M L (qI fun v M' L' => L = L' ∧ ((kp = 0 ∧ v = -3 ∧ M = M') ∨ (0 < kp ∧ v = nI (kp - 1) ∧ M' = undM M j kp p lb rb sw ln rf))) := by
  refine mt_of (by decide) rfl (Nat.le_of_ble_eq_true rfl) [(0, .ref (G.1 + 0))] rfl (fun X hG C hQ => ?_)
  subst hG
  refine wx_aload_n C 0 dX10_undo_0 rfl rfl ?_
  refine gf_X10_53 C dX10_undo_1 ?_
  refine ca_X10_281 C (rest := []) (t_X1_takeLatest X.1 M L hC.a.1 hC.a.2.1 hC.a.2.2.1 hC.a.2.2.2) (by decide) rfl (by decide) rfl rfl (Nat.le_of_ble_eq_true rfl) dX10_undo_4 (kN (fun M4 L4 q4 => ?_) (fun r4 M4 L4 q4 => ?_))
  · obtain ⟨rfl, h5⟩ := q4
    rcases h5 with ⟨e5, -, rfl⟩ | ⟨-, z, -⟩
    · refine wx_astore_nN C [1, 0] [(0, .ref (X.1.1 + 0)), (1, .null)] dX10_undo_7 rfl (by decide) rfl ?_
      refine wx_aload_nN C 1 dX10_undo_8 rfl rfl ?_
      refine wx_ifnonnullN C dX10_undo_9 ?_
      refine wx_bipush C (-3) dX10_undo_12 (by decide) ?_
      refine wx_iret C hQ dX10_undo_14 ?_
      exact ⟨_, rfl, rfl, Or.inl ⟨e5, rfl, rfl⟩⟩
    · cases z
  · obtain ⟨rfl, h5⟩ := q4
    rcases h5 with ⟨-, z, -⟩ | ⟨h0, z, rfl⟩
    · cases z
    · cases z
      obtain ⟨hj, hpth, hp12, hrb, hsw⟩ := hU h0
      rw [← hjx] at *
      change wx X (un1 M j kp) L _ _ _
      refine wx_astore_n C [1, 0] [(0, .ref (X.1.1 + 0)), (1, .ref (X.1.1 + (56 + 3 * j)))] dX10_undo_7 rfl (by decide) rfl ?_
      refine wx_aload_n C 1 dX10_undo_8 rfl rfl ?_
      refine wx_ifnonnull C 15 dX10_undo_9 (by decide) ?_
      refine wx_aload_n C 0 dX10_undo_15 rfl rfl ?_
      refine gf_X10_46 C dX10_undo_16 ?_
      refine wx_aload_n C 1 dX10_undo_19 rfl rfl ?_
      refine gf_X10_285 C hj dX10_undo_20 ?_
      refine wx_aload_n C 1 dX10_undo_23 rfl rfl ?_
      refine gf_X10_287 C hj dX10_undo_24 ?_
      refine ca_X10_290 C (rest := []) (t_X9_replaceRow X.1 (un1 M j kp) L (congrFun (un1_o M (by omega)) 0 |>.trans hpth) hp12 ((hC.r hp12).1.cg (un1_o M (by omega)) (un1_o M (by omega))) (hrb.cg (un1_o M (by omega)) (un1_o M (by omega))) (by omega)) (by decide) rfl (by decide) rfl rfl (Nat.le_of_ble_eq_true rfl) dX10_undo_27 (kV fun M27 L27 q27 => ?_)
      obtain ⟨rfl, rfl⟩ := q27
      have e2 : rpl (un1 M j kp) p (ln p) lb (rf p) rb ((un1 M j kp) (57 + 3 * j + 1)) = (un2 M j kp p lb rb ln rf) := by
        unfold un2
        rw [un1_o M (a := 57 + 3 * j + 1) (by omega), show 57 + 3 * j + 1 = 58 + 3 * j by omega]
      rw [e2]
      have eb : (un2 M j kp p lb rb ln rf) (56 + 3 * j) 1 = M (56 + 3 * j) 1 := congrFun (un2_o M (by omega) (by omega) (by omega) (by omega)) 1
      have ep : (un2 M j kp p lb rb ln rf) (56 + 3 * j) 0 = nI p := (congrFun (un2_o M (by omega) (by omega) (by omega) (by omega)) 0).trans hpth
      refine wx_aload_n C 1 dX10_undo_30 rfl rfl ?_
      refine gf_X10_294 C hj dX10_undo_31 ?_
      refine wx_if_eq C 53 dX10_undo_34 (by decide) (fun c34 => ?_) (fun c34 => ?_)
      · have hb : M (56 + 3 * j) 1 = 0 := eb.symm.trans c34
        have e3 : un2 M j kp p lb rb ln rf = (un3 M j kp p lb rb ln rf) := by
          unfold un3
          first
          | rw [if_pos hb]
          | rw [if_neg hb]
        rw [e3]
        have hs0 : (un3 M j kp p lb rb ln rf) (56 + 3 * j) 2 = M (56 + 3 * j) 2 := congrFun ((un3_o M (by omega)).trans (un2_o M (by omega) (by omega) (by omega) (by omega))) 2
        refine wx_aload_n C 1 dX10_undo_53 rfl rfl ?_
        refine gf_X10_276 C hj dX10_undo_54 ?_
        refine wx_iconst C (-1) dX10_undo_57 (by decide) ?_
        refine wx_icmp_eq C 72 dX10_undo_58 (by decide) (fun c58 => ?_) (fun c58 => ?_)
        · obtain rfl : sw = none := by
            rcases hsw with ⟨-, hs1⟩ | ⟨g, -, hsg0, hg12, -⟩
            · exact hs1
            · exact absurd (congrArg Int32.toInt ((hsg0.symm.trans hs0.symm).trans c58)) (by rw [nI_toInt (by omega)]; show ¬ (g : Int) = -1; omega)
          change wx X (un4 M j kp p lb rb none ln rf) L _ _ _
          refine wx_aload_n C 0 dX10_undo_72 rfl rfl ?_
          refine gf_X10_39 C dX10_undo_73 ?_
          refine ca_X10_86 C (rest := []) (t_X5_forget X.1 (un4 M j kp p lb rb none ln rf) L) (by decide) rfl (by decide) rfl rfl (Nat.le_of_ble_eq_true rfl) dX10_undo_76 (kV fun M76 L76 q76 => ?_)
          obtain ⟨rfl, rfl⟩ := q76
          refine wx_aload_n C 0 dX10_undo_79 rfl rfl ?_
          refine gf_X10_53 C dX10_undo_80 ?_
          refine gf_X10_300 C dX10_undo_83 ?_
          refine wx_iret C hQ dX10_undo_86 ?_
          refine ⟨_, rfl, rfl, Or.inr ⟨h0, ?_, rfl⟩⟩
          rw [g_st_ap, if_neg (by decide)]
          show un3 M j kp p lb rb ln rf 54 2 = _
          rw [un3_o M (by omega)]
          exact un2_54 M hp12
        · rcases hsw with ⟨hs1, -⟩ | ⟨g, rfl, hsg0, hg12, hgp⟩
          · exact absurd (hs0.trans hs1) c58
          have hsg : (un3 M j kp p lb rb ln rf) (56 + 3 * j) 2 = nI g := hs0.trans hsg0
          have hrg3 : rok (un3 M j kp p lb rb ln rf) (19 + 3 * g) (ln g) (rf g) := (hC.r hg12).1.cg ((un3_o M (by omega)).trans (un2_o M (by omega) (by omega) (by omega) (by omega))) ((un3_o M (by omega)).trans (un2_o M (by omega) (by omega) (by omega) (by omega)))
          refine wx_aload_n C 0 dX10_undo_61 rfl rfl ?_
          refine gf_X10_46 C dX10_undo_62 ?_
          refine wx_aload_n C 1 dX10_undo_65 rfl rfl ?_
          refine gf_X10_276 C hj dX10_undo_66 ?_
          refine ca_X10_297 C (rest := []) (t_X9_bringBack X.1 (un3 M j kp p lb rb ln rf) L hsg hg12 hrg3) (by decide) rfl (by decide) rfl rfl (Nat.le_of_ble_eq_true rfl) dX10_undo_69 (kV fun M69 L69 q69 => ?_)
          obtain ⟨rfl, rfl⟩ := q69
          change wx X (un4 M j kp p lb rb (some g) ln rf) L _ _ _
          refine wx_aload_n C 0 dX10_undo_72 rfl rfl ?_
          refine gf_X10_39 C dX10_undo_73 ?_
          refine ca_X10_86 C (rest := []) (t_X5_forget X.1 (un4 M j kp p lb rb (some g) ln rf) L) (by decide) rfl (by decide) rfl rfl (Nat.le_of_ble_eq_true rfl) dX10_undo_76 (kV fun M76 L76 q76 => ?_)
          obtain ⟨rfl, rfl⟩ := q76
          refine wx_aload_n C 0 dX10_undo_79 rfl rfl ?_
          refine gf_X10_53 C dX10_undo_80 ?_
          refine gf_X10_300 C dX10_undo_83 ?_
          refine wx_iret C hQ dX10_undo_86 ?_
          refine ⟨_, rfl, rfl, Or.inr ⟨h0, ?_, rfl⟩⟩
          rw [g_st_ap, if_neg (by decide)]
          show pa (g_st (un3 M j kp p lb rb ln rf) (18 + 3 * g) 1 0) (rf g) (nI g) (ln g) 54 2 = _
          rw [pa_out _ _ _ _ (by decide), g_st_ap, if_neg (by omega), un3_o M (by omega)]
          exact un2_54 M hp12
      · have hb : ¬ M (56 + 3 * j) 1 = 0 := fun z => c34 (eb.trans z)
        refine wx_aload_n C 0 dX10_undo_37 rfl rfl ?_
        refine gf_X10_46 C dX10_undo_38 ?_
        refine gf_X10_167 C dX10_undo_41 ?_
        refine wx_aload_n C 1 dX10_undo_44 rfl rfl ?_
        refine gf_X10_285 C hj dX10_undo_45 ?_
        refine wx_aaldW C p dX10_undo_48 ep hp12 ?_
        refine wx_iconst C 1 dX10_undo_49 (by decide) ?_
        refine pf_X10_195 C hp12 (by decide) (by decide) dX10_undo_50 ?_
        have e3 : g_st (un2 M j kp p lb rb ln rf) (18 + 3 * p) 1 1 = (un3 M j kp p lb rb ln rf) := by
          unfold un3
          first
          | rw [if_pos hb]
          | rw [if_neg hb]
        rw [e3]
        have hs0 : (un3 M j kp p lb rb ln rf) (56 + 3 * j) 2 = M (56 + 3 * j) 2 := congrFun ((un3_o M (by omega)).trans (un2_o M (by omega) (by omega) (by omega) (by omega))) 2
        refine wx_aload_n C 1 dX10_undo_53 rfl rfl ?_
        refine gf_X10_276 C hj dX10_undo_54 ?_
        refine wx_iconst C (-1) dX10_undo_57 (by decide) ?_
        refine wx_icmp_eq C 72 dX10_undo_58 (by decide) (fun c58 => ?_) (fun c58 => ?_)
        · obtain rfl : sw = none := by
            rcases hsw with ⟨-, hs1⟩ | ⟨g, -, hsg0, hg12, -⟩
            · exact hs1
            · exact absurd (congrArg Int32.toInt ((hsg0.symm.trans hs0.symm).trans c58)) (by rw [nI_toInt (by omega)]; show ¬ (g : Int) = -1; omega)
          change wx X (un4 M j kp p lb rb none ln rf) L _ _ _
          refine wx_aload_n C 0 dX10_undo_72 rfl rfl ?_
          refine gf_X10_39 C dX10_undo_73 ?_
          refine ca_X10_86 C (rest := []) (t_X5_forget X.1 (un4 M j kp p lb rb none ln rf) L) (by decide) rfl (by decide) rfl rfl (Nat.le_of_ble_eq_true rfl) dX10_undo_76 (kV fun M76 L76 q76 => ?_)
          obtain ⟨rfl, rfl⟩ := q76
          refine wx_aload_n C 0 dX10_undo_79 rfl rfl ?_
          refine gf_X10_53 C dX10_undo_80 ?_
          refine gf_X10_300 C dX10_undo_83 ?_
          refine wx_iret C hQ dX10_undo_86 ?_
          refine ⟨_, rfl, rfl, Or.inr ⟨h0, ?_, rfl⟩⟩
          rw [g_st_ap, if_neg (by decide)]
          show un3 M j kp p lb rb ln rf 54 2 = _
          rw [un3_o M (by omega)]
          exact un2_54 M hp12
        · rcases hsw with ⟨hs1, -⟩ | ⟨g, rfl, hsg0, hg12, hgp⟩
          · exact absurd (hs0.trans hs1) c58
          have hsg : (un3 M j kp p lb rb ln rf) (56 + 3 * j) 2 = nI g := hs0.trans hsg0
          have hrg3 : rok (un3 M j kp p lb rb ln rf) (19 + 3 * g) (ln g) (rf g) := (hC.r hg12).1.cg ((un3_o M (by omega)).trans (un2_o M (by omega) (by omega) (by omega) (by omega))) ((un3_o M (by omega)).trans (un2_o M (by omega) (by omega) (by omega) (by omega)))
          refine wx_aload_n C 0 dX10_undo_61 rfl rfl ?_
          refine gf_X10_46 C dX10_undo_62 ?_
          refine wx_aload_n C 1 dX10_undo_65 rfl rfl ?_
          refine gf_X10_276 C hj dX10_undo_66 ?_
          refine ca_X10_297 C (rest := []) (t_X9_bringBack X.1 (un3 M j kp p lb rb ln rf) L hsg hg12 hrg3) (by decide) rfl (by decide) rfl rfl (Nat.le_of_ble_eq_true rfl) dX10_undo_69 (kV fun M69 L69 q69 => ?_)
          obtain ⟨rfl, rfl⟩ := q69
          change wx X (un4 M j kp p lb rb (some g) ln rf) L _ _ _
          refine wx_aload_n C 0 dX10_undo_72 rfl rfl ?_
          refine gf_X10_39 C dX10_undo_73 ?_
          refine ca_X10_86 C (rest := []) (t_X5_forget X.1 (un4 M j kp p lb rb (some g) ln rf) L) (by decide) rfl (by decide) rfl rfl (Nat.le_of_ble_eq_true rfl) dX10_undo_76 (kV fun M76 L76 q76 => ?_)
          obtain ⟨rfl, rfl⟩ := q76
          refine wx_aload_n C 0 dX10_undo_79 rfl rfl ?_
          refine gf_X10_53 C dX10_undo_80 ?_
          refine gf_X10_300 C dX10_undo_83 ?_
          refine wx_iret C hQ dX10_undo_86 ?_
          refine ⟨_, rfl, rfl, Or.inr ⟨h0, ?_, rfl⟩⟩
          rw [g_st_ap, if_neg (by decide)]
          show pa (g_st (un3 M j kp p lb rb ln rf) (18 + 3 * g) 1 0) (rf g) (nI g) (ln g) 54 2 = _
          rw [pa_out _ _ _ _ (by decide), g_st_ap, if_neg (by omega), un3_o M (by omega)]
          exact un2_54 M hp12
