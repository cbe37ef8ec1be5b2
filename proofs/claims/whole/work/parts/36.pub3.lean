/-! ===== NightDots: what a call may leave behind unseen; start, single, join, joinBit, force ===== -/
def frC (M N : g_M) : Prop := ∀ a b, ¬ (a = 7 ∧ (b = 3 ∨ b = 4)) → ¬ (a = 8 ∧ (b = 2 ∨ b = 3)) → ¬ (a = 9 ∧ (b = 8 ∨ b = 9 ∨ b = 10)) → ¬ (10 ≤ a ∧ a ≤ 15) → ¬ (a = 147 ∧ b = 1) → a ≠ 148 → N a b = M a b
def frD (M N : g_M) : Prop := ∀ a b, ¬ (a = 7 ∧ (b = 3 ∨ b = 4)) → ¬ (a = 8 ∧ (b = 2 ∨ b = 3)) → ¬ (a = 147 ∧ b = 1) → a ≠ 148 → N a b = M a b
theorem frD.o {M N : g_M} (h : frD M N) (a : Nat) (h1 : a ≠ 7) (h2 : a ≠ 8) (h3 : a ≠ 147) (h4 : a ≠ 148) : N a = M a := by
  funext b
  exact h a b (by omega) (by omega) (by omega) h4
theorem frD.rf (M : g_M) : frD M M := fun _ _ _ _ _ _ => rfl
theorem frD.trans {M N K : g_M} (h : frD M N) (h2 : frD N K) : frD M K := fun a b x y z u => (h2 a b x y z u).trans (h a b x y z u)
theorem frG.toD {M N : g_M} (h : frG M N) : frD M N := fun a b x _ z u => h a b x z u
theorem frD_bt (M : g_M) (x y : Int32) : frD M (bt2 M x y) := fun a b _ u _ _ => by
  unfold bt2
  rw [g_st_ap, if_neg (by omega), g_st_ap, if_neg (by omega)]
theorem frD.eB {M N : g_M} (h : frD M N) : cB N = cB M := by
  show bitP (N 2) (N 3) (N 4) (N 6) (N 8 1) = bitP (M 2) (M 3) (M 4) (M 6) (M 8 1)
  rw [h.o 2 (by decide) (by decide) (by decide) (by decide), h.o 3 (by decide) (by decide) (by decide) (by decide), h.o 4 (by decide) (by decide) (by decide) (by decide), h.o 6 (by decide) (by decide) (by decide) (by decide), h 8 1 (by decide) (by decide) (by decide) (by decide)]
theorem frD.eP {M N : g_M} (h : frD M N) (ax : Int32) (r : Nat → Nat) (l : Nat) : cLp N ax r l = cLp M ax r l := by
  show (N 2, plc (N 3) (N 4) ax, N 7 2, N 7 1, r, l) = (M 2, plc (M 3) (M 4) ax, M 7 2, M 7 1, r, l)
  rw [h.o 2 (by decide) (by decide) (by decide) (by decide), h.o 3 (by decide) (by decide) (by decide) (by decide), h.o 4 (by decide) (by decide) (by decide) (by decide), h 7 2 (by decide) (by decide) (by decide) (by decide), h 7 1 (by decide) (by decide) (by decide) (by decide)]
theorem frD.eS {M N : g_M} (h : frD M N) : snd N = snd M := by
  funext r l
  show (anyS (cLp N 0 r l) 41 && anyS (cLp N 1 r l) 41) = (anyS (cLp M 0 r l) 41 && anyS (cLp M 1 r l) 41)
  rw [h.eP, h.eP]
theorem frD.eL {M N : g_M} (h : frD M N) (n : Nat) : PLst N n = PLst M n := by
  unfold PLst
  rw [h.eB, h.eS, h.o 2 (by decide) (by decide) (by decide) (by decide)]
theorem chR.of {M N : g_M} {n : Nat} (hc : chR M n) (h : frD M N) : chR N n := by
  unfold chR
  rw [h.eB, h.eL n, h.o 9 (by decide) (by decide) (by decide) (by decide), h.o 10 (by decide) (by decide) (by decide) (by decide), h.o 11 (by decide) (by decide) (by decide) (by decide), h.o 12 (by decide) (by decide) (by decide) (by decide), h.o 13 (by decide) (by decide) (by decide) (by decide)]
  exact hc
/-- a memory that a call leaves that did nothing -/
def gC (M N : g_M) (n : Nat) : Prop := frC M N ∧ (N 9 10 = 0 ∨ (N 9 10 = 1 ∧ chR N n))
theorem gC.D {M N K : g_M} {n : Nat} (h : gC M N n) (h2 : frD N K) : gC M K n := by
  refine ⟨fun a b x y z u v w => (h2 a b x y v w).trans (h.1 a b x y z u v w), ?_⟩
  rw [h2.o 9 (by decide) (by decide) (by decide) (by decide)]
  rcases h.2 with h3 | ⟨h3, h4⟩
  · exact Or.inl h3
  · exact Or.inr ⟨h3, h4.of h2⟩
theorem cI.gC {M : g_M} {n e nx kp : Nat} {ln : Nat → Nat} {rf : Nat → Nat → Nat} (h : cI M n e nx kp ln rf) : gC M M n := ⟨fun _ _ _ _ _ _ _ _ => rfl, h.k⟩
theorem fr5.gC {M N : g_M} {n : Nat} (h : fr5 M N) (h1 : N 9 10 = 1) (h2 : chR N n) : gC M N n := ⟨fun a b x _ z u _ _ => h a b x z u, Or.inr ⟨h1, h2⟩⟩
theorem frC.o {M N : g_M} (h : frC M N) (a : Nat) (h1 : a ≠ 7) (h2 : a ≠ 8) (h3 : a ≠ 9) (h4 : ¬ (10 ≤ a ∧ a ≤ 15)) (h5 : a ≠ 147) (h6 : a ≠ 148) : N a = M a := by
  funext b
  exact h a b (by omega) (by omega) (by omega) h4 (by omega) h6
theorem frC.w {M N : g_M} (h : frC M N) {p l : Nat} {r : Nat → Nat} (hp : p < 12) (hr : rok M (19 + 3 * p) l r) : rok N (19 + 3 * p) l r := hr.cg (h.o _ (by omega) (by omega) (by omega) (by omega) (by omega) (by omega)) (h.o _ (by omega) (by omega) (by omega) (by omega) (by omega) (by omega))
theorem frC.a {M N : g_M} (h : frC M N) {nx kp : Nat} (ha : acO M nx kp) : acO N nx kp := by
  have e := h.o 54 (by decide) (by decide) (by decide) (by decide) (by decide) (by decide)
  exact ⟨by rw [e]; exact ha.1, ha.2.1, by rw [e]; exact ha.2.2.1, ha.2.2.2⟩
theorem frC.e {M N : g_M} (h : frC M N) {e : Nat} (he : M 16 2 = nI e) : N 16 2 = nI e := by
  rw [h.o 16 (by decide) (by decide) (by decide) (by decide) (by decide) (by decide)]; exact he
theorem frC.g {M N : g_M} (h : frC M N) (hg : 1 ≤ (M 7 1).toInt) : 1 ≤ (N 7 1).toInt := by
  rw [h 7 1 (by decide) (by decide) (by decide) (by decide) (by decide) (by decide)]; exact hg
theorem frC.eS {M N : g_M} (h : frC M N) : snd N = snd M := by
  funext r l
  have e : ∀ ax, cLp N ax r l = cLp M ax r l := fun ax => by
    show (N 2, plc (N 3) (N 4) ax, N 7 2, N 7 1, r, l) = (M 2, plc (M 3) (M 4) ax, M 7 2, M 7 1, r, l)
    rw [h.o 2 (by decide) (by decide) (by decide) (by decide) (by decide) (by decide), h.o 3 (by decide) (by decide) (by decide) (by decide) (by decide) (by decide), h.o 4 (by decide) (by decide) (by decide) (by decide) (by decide) (by decide), h 7 2 (by decide) (by decide) (by decide) (by decide) (by decide) (by decide), h 7 1 (by decide) (by decide) (by decide) (by decide) (by decide) (by decide)]
  show (anyS (cLp N 0 r l) 41 && anyS (cLp N 1 r l) 41) = (anyS (cLp M 0 r l) 41 && anyS (cLp M 1 r l) 41)
  rw [e, e]
/-- a new path comes: FULL, or its number -/
def bgP (M : g_M) (n e nx kp : Nat) (nm : Int32) (rf : Nat → Nat → Nat) (l2 : Nat) (r2 : Nat → Nat) (v : Int32) (M' : g_M) : Prop := (e = 12 ∧ v = -4 ∧ gC M M' n) ∨ (e < 12 ∧ v = nI e ∧ ∃ N, gC M N n ∧ rok N 147 l2 r2 ∧ M' = bgn N e nm nx kp l2 (rf e) r2)
/-- begin, from a memory with other garbage -/
theorem t_begin2 (G : g_G) (M N : g_M) (L : g_L) (nm : Int32) {n e nx kp l2 : Nat} {ln : Nat → Nat} {rf : Nat → Nat → Nat} {r2 : Nat → Nat} (hC : cI M n e nx kp ln rf) (hN : gC M N n) (h2 : rok N 147 l2 r2) : mt G yX10_begin (Cond.code yX10_begin cX10_begin 4 (some .int)) 5 [.ref (G.1 + 0), .int nm] N L (qI fun v M' L' => L = L' ∧ bgP M n e nx kp nm rf l2 r2 v M') := by
  refine mt_mono (t_X10_begin G N L nm (r := rf e) (hN.1.e hC.e.1) hC.e.2 (hN.1.a hC.a) (fun h => by
    have := hN.1.w h (hC.r h).1
    rwa [hC.z (Nat.le_refl e) h] at this) h2) (fun r M1 L1 h => ?_)
  obtain ⟨v, e1, h1, h3⟩ := h
  refine ⟨v, e1, h1, ?_⟩
  rcases h3 with ⟨a, b, rfl⟩ | ⟨a, b, c⟩
  · exact Or.inl ⟨a, b, hN⟩
  · exact Or.inr ⟨a, b, N, hN, h2, c⟩
set_option maxHeartbeats 4000000 in
set_option maxRecDepth 100000 in
theorem t_X10_start (G : g_G) (M : g_M) (L : g_L) (x nm : Int32) {n e nx kp : Nat} {ln : Nat → Nat} {rf : Nat → Nat → Nat} (hC : cI M n e nx kp ln rf) : mt G yX10_start (Cond.code yX10_start cX10_start 3 (some .int)) 6 [.ref (G.1 + 0), .int x, .int nm] M L (qI fun v M' L' => L = L' ∧ ((getP (plE M n) x = none ∧ v = -1 ∧ gC M M' n) ∨ ∃ e0, getP (plE M n) x = some e0 ∧ ((inW nm 0 999 = false ∧ v = -2 ∧ gC M M' n) ∨ (inW nm 0 999 = true ∧ bgP M n e nx kp nm rf 4 (r4 (bl (cB M) n n) e0.1 e0.2) v M')))) := by
  refine mt_of (by decide) rfl (Nat.le_of_ble_eq_true rfl) [(0, .ref (G.1 + 0)), (1, .int x), (2, .int nm)] rfl (fun X hG C hQ => ?_)
  subst hG
  refine wx_iload_n C 1 dX10_start_0 rfl rfl ?_
  refine wx_iconst C 0 dX10_start_1 (by decide) ?_
  refine wx_aload_n C 0 dX10_start_2 rfl rfl ?_
  refine gf_X10_39 C dX10_start_3 ?_
  refine ca_X10_136 C (rest := [.int 0, .int x]) (t_X5_total X.1 M L hC.n.1 hC.n.2 hC.g hC.k) (by decide) rfl (by decide) rfl rfl (Nat.le_of_ble_eq_true rfl) dX10_start_6 (kI fun r6 M6 L6 q6 => ?_)
  obtain ⟨rfl, h5, h10, hc, rfl⟩ := q6
  refine wx_iconst C 1 dX10_start_9 (by decide) ?_
  refine wx_isub C dX10_start_10 ?_
  refine ca_X10_71 C (rest := []) (t_X10_isWithin X.1 M6 L x 0 (totV M n - 1)) (by decide) rfl rfl (Nat.le_of_ble_eq_true rfl) dX10_start_11 (kI fun r11 M11 L11 q11 => ?_)
  obtain ⟨rfl, rfl, rfl⟩ := q11
  refine wx_if_ne C 19 dX10_start_14 (by decide) (fun c14 => ?_) (fun c14 => ?_)
  · obtain ⟨q, e0, hq, rfl, hqe, hle⟩ := tot_in (bI_n0.mp c14)
    obtain ⟨hqe2, he1, he2⟩ := plE_some hqe hle
    have hpq := (hc.2.2 (by rw [h5.eB]; exact hle)).2 q e0 (by rw [h5.eL]; exact hqe2)
    have hg1 := hc.2.1 e0.1 _ (by omega) (by rw [h5.eB]; exact getD_some he1)
    have hg2 := hc.2.1 e0.2 _ (by omega) (by rw [h5.eB]; exact getD_some he2)
    have hm1 := bl_mem (Nat.le_refl n) _ (List.mem_of_getElem? (getD_some he1))
    have hm2 := bl_mem (Nat.le_refl n) _ (List.mem_of_getElem? (getD_some he2))
    have h60 := hC.n.2
    have hN : gC M (g_sr M6 147 4 (f4 M6 e0.1 e0.2)) n := (h5.gC h10 hc).D (frG_sr _ _ _).toD
    have h2 : rok (g_sr M6 147 4 (f4 M6 e0.1 e0.2)) 147 4 (r4 (bl (cB M) n n) e0.1 e0.2) := by
      refine ⟨rw_147, g_sr_len _ _ _ _, by decide, fun i hi => ?_⟩
      rw [g_sr_at M6 147 4 _ hi]
      unfold f4 r4
      rcases (show i = 0 ∨ i = 1 ∨ i = 2 ∨ i = 3 by omega) with rfl | rfl | rfl | rfl
      · exact ⟨hg1.1, Nat.lt_of_lt_of_le hm1.1 h60⟩
      · exact ⟨hg1.2, Nat.lt_of_lt_of_le hm1.2 h60⟩
      · exact ⟨hg2.1, Nat.lt_of_lt_of_le hm2.1 h60⟩
      · exact ⟨hg2.2, Nat.lt_of_lt_of_le hm2.2 h60⟩
    refine wx_iload_n C 2 dX10_start_19 rfl rfl ?_
    refine ca_X10_143 C (rest := []) (t_X10_isName X.1 M6 L nm) (by decide) rfl rfl (Nat.le_of_ble_eq_true rfl) dX10_start_20 (kI fun r20 M20 L20 q20 => ?_)
    obtain ⟨rfl, rfl, rfl⟩ := q20
    refine wx_if_ne C 29 dX10_start_23 (by decide) (fun c23 => ?_) (fun c23 => ?_)
    · refine wx_aload_n C 0 dX10_start_29 rfl rfl ?_
      refine gf_X10_39 C dX10_start_30 ?_
      refine wx_aload_n C 0 dX10_start_33 rfl rfl ?_
      refine gf_X10_39 C dX10_start_34 ?_
      refine gf_X10_137 C dX10_start_37 ?_
      refine wx_iload_n C 1 dX10_start_40 rfl rfl ?_
      refine wx_iald C 10 q (by decide) (fun _ _ => rfl) (by decide) dX10_start_41 rfl hq ?_
      refine wx_aload_n C 0 dX10_start_42 rfl rfl ?_
      refine gf_X10_39 C dX10_start_43 ?_
      refine gf_X10_140 C dX10_start_46 ?_
      refine wx_iload_n C 1 dX10_start_49 rfl rfl ?_
      refine wx_iald C 11 q (by decide) (fun _ _ => rfl) (by decide) dX10_start_50 rfl hq ?_
      refine wx_aload_n C 0 dX10_start_51 rfl rfl ?_
      refine gf_X10_67 C dX10_start_52 ?_
      refine ca_X10_146 C (rest := []) (t_X5_gather X.1 M6 L rw_147 hpq.1 (by omega) hpq.2 (by omega)) (by decide) rfl (by decide) rfl rfl (Nat.le_of_ble_eq_true rfl) dX10_start_55 (kV fun M55 L55 q55 => ?_)
      obtain ⟨rfl, rfl⟩ := q55
      refine wx_aload_n C 0 dX10_start_58 rfl rfl ?_
      refine wx_iload_n C 2 dX10_start_59 rfl rfl ?_
      refine ca_X10_150 C (rest := []) (t_begin2 X.1 M (g_sr M6 147 4 (f4 M6 e0.1 e0.2)) L nm hC hN h2) (by decide) rfl (by decide) rfl rfl (Nat.le_of_ble_eq_true rfl) dX10_start_60 (kI fun r60 M60 L60 q60 => ?_)
      obtain ⟨rfl, hbg⟩ := q60
      refine wx_iret C hQ dX10_start_63 ?_
      exact ⟨_, rfl, rfl, Or.inr ⟨e0, by rw [getP_n (by omega)]; exact hqe, Or.inr ⟨bI_n0.mp c23, hbg⟩⟩⟩
    · refine wx_bipush C (-2) dX10_start_26 (by decide) ?_
      refine wx_iret C hQ dX10_start_28 ?_
      exact ⟨_, rfl, rfl, Or.inr ⟨e0, by rw [getP_n (by omega)]; exact hqe, Or.inl ⟨bI_0.mp c23, rfl, h5.gC h10 hc⟩⟩⟩
  · refine wx_iconst C (-1) dX10_start_17 (by decide) ?_
    refine wx_iret C hQ dX10_start_18 ?_
    exact ⟨_, rfl, rfl, Or.inl ⟨tot_no (bI_0.mp c14), rfl, h5.gC h10 hc⟩⟩
theorem rok_1 (M : g_M) {d : Nat} (hd : d < 60) : rok (g_sr M 147 1 (upd (fun _ => 0) 0 (nI d))) 147 1 (fun _ => d) := by
  refine ⟨rw_147, g_sr_len _ _ _ _, by decide, fun i hi => ?_⟩
  rw [g_sr_at M 147 1 _ hi, show i = 0 by omega]
  exact ⟨rfl, hd⟩
def dHas (n : Nat) (x : Int32) : Bool := decide (0 ≤ x ∧ x < nI n)
set_option maxHeartbeats 4000000 in
set_option maxRecDepth 100000 in
theorem t_X10_single (G : g_G) (M : g_M) (L : g_L) (y nm : Int32) {n e nx kp : Nat} {ln : Nat → Nat} {rf : Nat → Nat → Nat} (hC : cI M n e nx kp ln rf) : mt G yX10_single (Cond.code yX10_single cX10_single 3 (some .int)) 6 [.ref (G.1 + 0), .int y, .int nm] M L (qI fun v M' L' => L = L' ∧ ((dHas n y = false ∧ v = -1 ∧ gC M M' n) ∨ ∃ d, d < n ∧ y = nI d ∧ ((inW nm 0 999 = false ∧ v = -2 ∧ gC M M' n) ∨ (inW nm 0 999 = true ∧ (((¬ M 6 d = -1 ∨ snd M (fun _ => d) 1 = false) ∧ v = -3 ∧ gC M M' n) ∨ (M 6 d = -1 ∧ snd M (fun _ => d) 1 = true ∧ bgP M n e nx kp nm rf 1 (fun _ => d) v M')))))) := by
  refine mt_of (by decide) rfl (Nat.le_of_ble_eq_true rfl) [(0, .ref (G.1 + 0)), (1, .int y), (2, .int nm)] rfl (fun X hG C hQ => ?_)
  subst hG
  refine wx_aload_n C 0 dX10_single_0 rfl rfl ?_
  refine gf_X10_14 C dX10_single_1 ?_
  refine wx_iload_n C 1 dX10_single_4 rfl rfl ?_
  refine ca_X10_99 C (rest := []) (t_X7_has X.1 M L y) (by decide) rfl (by decide) rfl rfl (Nat.le_of_ble_eq_true rfl) dX10_single_5 (kI fun r5 M5 L5 q5 => ?_)
  obtain ⟨rfl, rfl, rfl⟩ := q5
  refine wx_if_ne C 13 dX10_single_8 (by decide) (fun c8 => ?_) (fun c8 => ?_)
  · have hh := of_decide_eq_true (bI_n0.mp c8)
    rw [hC.n.1] at hh
    have h60 := hC.n.2
    obtain ⟨d, hd, rfl⟩ := in_of (by omega) hh.1 hh.2
    refine wx_iload_n C 2 dX10_single_13 rfl rfl ?_
    refine ca_X10_143 C (rest := []) (t_X10_isName X.1 M L nm) (by decide) rfl rfl (Nat.le_of_ble_eq_true rfl) dX10_single_14 (kI fun r14 M14 L14 q14 => ?_)
    obtain ⟨rfl, rfl, rfl⟩ := q14
    refine wx_if_ne C 23 dX10_single_17 (by decide) (fun c17 => ?_) (fun c17 => ?_)
    · refine wx_aload_n C 0 dX10_single_23 rfl rfl ?_
      refine gf_X10_67 C dX10_single_24 ?_
      refine ca_X10_153 C (rest := []) (t_X6_clear X.1 M L rw_147) (g_row_lt1 rw_147) (sh_row rw_147 _ _) (by decide) rfl rfl (Nat.le_of_ble_eq_true rfl) dX10_single_27 (kV fun M27 L27 q27 => ?_)
      obtain ⟨rfl, rfl⟩ := q27
      rw [g_sr_0 M 147 (fun _ => 0)]
      refine wx_aload_n C 0 dX10_single_30 rfl rfl ?_
      refine gf_X10_67 C dX10_single_31 ?_
      refine wx_iload_n C 1 dX10_single_34 rfl rfl ?_
      refine ca_X10_156 C (rest := []) (t_X6_add X.1 (g_sr M 147 0 (fun _ => 0)) L rw_147 (l := 0) (g_sr_len _ _ _ _) (by decide) _) (g_row_lt1 rw_147) (sh_row rw_147 _ _) (by decide) rfl rfl (Nat.le_of_ble_eq_true rfl) dX10_single_35 (kV fun M35 L35 q35 => ?_)
      obtain ⟨rfl, rfl⟩ := q35
      rw [g_sr_add M 147 0]
      have hN : gC M (g_sr M 147 1 (upd (fun _ => 0) 0 (nI d))) n := hC.gC.D (frG_sr _ _ _).toD
      have h2 := rok_1 M (d := d) (by omega)
      refine wx_aload_n C 0 dX10_single_38 rfl rfl ?_
      refine gf_X10_14 C dX10_single_39 ?_
      refine wx_iload_n C 1 dX10_single_42 rfl rfl ?_
      refine ca_X10_159 C (rest := []) (t_X7_isFree X.1 (g_sr M 147 1 (upd (fun _ => 0) 0 (nI d))) L (e := d) rfl (by omega)) (by decide) rfl (by decide) rfl rfl (Nat.le_of_ble_eq_true rfl) dX10_single_43 (kI fun r43 M43 L43 q43 => ?_)
      obtain ⟨rfl, rfl, rfl⟩ := q43
      rw [g_sr_out M 147 _ _ _ (by decide) (by decide)]
      refine wx_if_eq C 63 dX10_single_46 (by decide) (fun c46 => ?_) (fun c46 => ?_)
      · refine wx_bipush C (-3) dX10_single_63 (by decide) ?_
        refine wx_iret C hQ dX10_single_65 ?_
        first
        | exact ⟨_, rfl, rfl, Or.inr ⟨d, hd, rfl, Or.inr ⟨bI_n0.mp c17, Or.inl ⟨Or.inl (of_decide_eq_false (bI_0.mp c46)), rfl, hN⟩⟩⟩⟩
        | exact ⟨_, rfl, rfl, Or.inr ⟨d, hd, rfl, Or.inr ⟨bI_n0.mp c17, Or.inl ⟨Or.inr (bI_0.mp c60), rfl, hN.D (frG_nt _ _ _).toD⟩⟩⟩⟩
      · refine wx_aload_n C 0 dX10_single_49 rfl rfl ?_
        refine gf_X10_23 C dX10_single_50 ?_
        refine wx_aload_n C 0 dX10_single_53 rfl rfl ?_
        refine gf_X10_67 C dX10_single_54 ?_
        refine ca_X10_162 C (rest := []) (t_X4_isSound X.1 (g_sr M 147 1 (upd (fun _ => 0) 0 (nI d))) L h2 (hN.1.g hC.g)) (by decide) rfl (by decide) rfl rfl (Nat.le_of_ble_eq_true rfl) dX10_single_57 (kI fun r57 M57 L57 q57 => ?_)
        obtain ⟨rfl, rfl, a57, b57, rfl⟩ := q57
        rw [hN.1.eS]
        refine wx_if_ne C 66 dX10_single_60 (by decide) (fun c60 => ?_) (fun c60 => ?_)
        · refine wx_aload_n C 0 dX10_single_66 rfl rfl ?_
          refine wx_iload_n C 2 dX10_single_67 rfl rfl ?_
          refine ca_X10_150 C (rest := []) (t_begin2 X.1 M (nt (g_sr M 147 1 (upd (fun _ => 0) 0 (nI d))) a57 b57) L nm hC (hN.D (frG_nt _ _ _).toD) (h2.nt a57 b57)) (by decide) rfl (by decide) rfl rfl (Nat.le_of_ble_eq_true rfl) dX10_single_68 (kI fun r68 M68 L68 q68 => ?_)
          obtain ⟨rfl, hbg⟩ := q68
          refine wx_iret C hQ dX10_single_71 ?_
          exact ⟨_, rfl, rfl, Or.inr ⟨d, hd, rfl, Or.inr ⟨bI_n0.mp c17, Or.inr ⟨of_decide_eq_true (bI_n0.mp c46), bI_n0.mp c60, hbg⟩⟩⟩⟩
        · refine wx_bipush C (-3) dX10_single_63 (by decide) ?_
          refine wx_iret C hQ dX10_single_65 ?_
          first
          | exact ⟨_, rfl, rfl, Or.inr ⟨d, hd, rfl, Or.inr ⟨bI_n0.mp c17, Or.inl ⟨Or.inl (of_decide_eq_false (bI_0.mp c46)), rfl, hN⟩⟩⟩⟩
          | exact ⟨_, rfl, rfl, Or.inr ⟨d, hd, rfl, Or.inr ⟨bI_n0.mp c17, Or.inl ⟨Or.inr (bI_0.mp c60), rfl, hN.D (frG_nt _ _ _).toD⟩⟩⟩⟩
    · refine wx_bipush C (-2) dX10_single_20 (by decide) ?_
      refine wx_iret C hQ dX10_single_22 ?_
      exact ⟨_, rfl, rfl, Or.inr ⟨d, hd, rfl, Or.inl ⟨bI_0.mp c17, rfl, hC.gC⟩⟩⟩
  · refine wx_iconst C (-1) dX10_single_11 (by decide) ?_
    refine wx_iret C hQ dX10_single_12 ?_
    exact ⟨_, rfl, rfl, Or.inl ⟨by unfold dHas; rw [← hC.n.1]; exact bI_0.mp c8, rfl, hC.gC⟩⟩
