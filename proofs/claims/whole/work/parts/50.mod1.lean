/-! ===== the reference: what its calls share ===== -/
def mLp (M : g_M) (ax : Int32) (r : Nat → Nat) (l : Nat) : Lp := (M 150, plc (M 151) (M 152) ax, M 149 4, M 149 3, r, l)
/-- its two ends are told anew -/
def mn (M : g_M) (a b : Int32) : g_M := g_st (g_st M 149 16 a) 149 17 b
theorem mn_ap (M : g_M) (a b : Int32) (x y : Nat) : mn M a b x y = if x = 149 ∧ y = 17 then b else if x = 149 ∧ y = 16 then a else M x y := by
  unfold mn; rw [g_st_ap, g_st_ap]
theorem mn_o (M : g_M) (a b : Int32) {x : Nat} (h : x ≠ 149) : mn M a b x = M x := by
  funext y
  rw [mn_ap, if_neg (by omega), if_neg (by omega)]
theorem mn_mn (M : g_M) (a b c d : Int32) : mn (mn M a b) c d = mn M c d := by
  funext x y
  simp only [mn_ap]
  (repeat' split) <;> first | rfl | (exfalso; omega)
theorem mn_self (M : g_M) : mn M (M 149 16) (M 149 17) = M := by
  funext x y
  simp only [mn_ap]
  (repeat' split)
  · rename_i h; rw [h.1, h.2]
  · rename_i h; rw [h.1, h.2]
  · rfl
/-- the dots that it looks at: l of them, i told so far -/
def tk (M : g_M) (l : Nat) (f : Nat → Int32) (i : Nat) : g_M := fun a b => if a = 149 ∧ b = 15 then nI l else if a = 159 ∧ b < i then f b else M a b
theorem tk_0 (M : g_M) (l : Nat) (f : Nat → Int32) : g_st M 149 15 (nI l) = tk M l f 0 := by
  funext a b
  simp only [g_st_ap, tk]
  (repeat' split) <;> first | rfl | (exfalso; omega)
theorem tk_1 (M : g_M) (l : Nat) (f : Nat → Int32) (i : Nat) : g_st (tk M l f i) 159 i (f i) = tk M l f (i + 1) := by
  funext a b
  simp only [g_st_ap, tk]
  (repeat' split) <;> first | rfl | (exfalso; omega) | (rename_i h _ _; rw [h.2]) | (rename_i h _; rw [h.2]) | (rename_i h; rw [h.2])
theorem tk_o (M : g_M) (l : Nat) (f : Nat → Int32) (i : Nat) {a : Nat} (b : Nat) (h1 : a ≠ 149) (h2 : a ≠ 159) : tk M l f i a b = M a b := by
  unfold tk
  rw [if_neg (by omega), if_neg (by omega)]
theorem tk_c (M : g_M) (l : Nat) (f : Nat → Int32) (i : Nat) : tk M l f i 149 15 = nI l := by
  unfold tk
  rw [if_pos ⟨rfl, rfl⟩]
def sok (M : g_M) (l : Nat) (r : Nat → Nat) : Prop := M 149 15 = nI l ∧ l ≤ 16 ∧ ∀ i, i < l → M 159 i = nI (r i) ∧ r i < 60
theorem sok.mn {M : g_M} {l : Nat} {r : Nat → Nat} (h : sok M l r) (a b : Int32) : sok (mn M a b) l r := ⟨h.1, h.2.1, fun i hi => by rw [mn_o M a b (by decide)]; exact h.2.2 i hi⟩
set_option maxHeartbeats 4000000 in
set_option maxRecDepth 100000 in
theorem t_X11_isIn (G : g_G) (M : g_M) (L : g_L) (x a b : Int32) : mt G yX11_isIn (Cond.code yX11_isIn cX11_isIn 3 (some .boolean)) 0 [.int x, .int a, .int b] M L (qI fun v M' L' => v = bI (inW x a b) ∧ M = M' ∧ L = L') := by
  refine mt_of (by decide) rfl (Nat.le_of_ble_eq_true rfl) [(0, .int x), (1, .int a), (2, .int b)] rfl (fun X hG C hQ => ?_)
  subst hG
  refine wx_iload_n C 0 dX11_isIn_0 rfl rfl ?_
  refine wx_iload_n C 1 dX11_isIn_1 rfl rfl ?_
  refine wx_icmp_lt C 14 dX11_isIn_2 (by decide) (fun c2 => ?_) (fun c2 => ?_)
  · refine wx_iconst C 0 dX11_isIn_14 (by decide) ?_
    refine wx_zret C hQ dX11_isIn_15 (by decide) ?_
    refine ⟨_, rfl, ?_, rfl, rfl⟩
    unfold inW
    rw [decide_eq_false]
    · rfl
    · intro z
      first
      | exact absurd c2 (Int32.not_lt.mpr z.1)
      | exact absurd c7 (Int32.not_lt.mpr z.2)
  · refine wx_iload_n C 0 dX11_isIn_5 rfl rfl ?_
    refine wx_iload_n C 2 dX11_isIn_6 rfl rfl ?_
    refine wx_icmp_gt C 14 dX11_isIn_7 (by decide) (fun c7 => ?_) (fun c7 => ?_)
    · refine wx_iconst C 0 dX11_isIn_14 (by decide) ?_
      refine wx_zret C hQ dX11_isIn_15 (by decide) ?_
      refine ⟨_, rfl, ?_, rfl, rfl⟩
      unfold inW
      rw [decide_eq_false]
      · rfl
      · intro z
        first
        | exact absurd c2 (Int32.not_lt.mpr z.1)
        | exact absurd c7 (Int32.not_lt.mpr z.2)
    · refine wx_iconst C 1 dX11_isIn_10 (by decide) ?_
      refine wx_goto C 15 dX11_isIn_11 (by decide) ?_
      refine wx_zret C hQ dX11_isIn_15 (by decide) ?_
      refine ⟨_, rfl, ?_, rfl, rfl⟩
      unfold inW
      rw [decide_eq_true]
      · rfl
      · exact ⟨Int32.not_lt.mp c2, Int32.not_lt.mp c7⟩
set_option maxHeartbeats 4000000 in
set_option maxRecDepth 100000 in
theorem t_X11_isDot (G : g_G) (M : g_M) (L : g_L) (x : Int32) {n : Nat} (hn : M 149 0 = nI n) (h60 : n ≤ 60) : mt G yX11_isDot (Cond.code yX11_isDot cX11_isDot 2 (some .boolean)) 1 [.ref (G.1 + 149), .int x] M L (qI fun v M' L' => v = bI (dHas n x) ∧ M = M' ∧ L = L') := by
  refine mt_of (by decide) rfl (Nat.le_of_ble_eq_true rfl) [(0, .ref (G.1 + 149)), (1, .int x)] rfl (fun X hG C hQ => ?_)
  subst hG
  refine wx_iload_n C 1 dX11_isDot_0 rfl rfl ?_
  refine wx_iconst C 0 dX11_isDot_1 (by decide) ?_
  refine wx_aload_n C 0 dX11_isDot_2 rfl rfl ?_
  refine gf_X11_75 C dX11_isDot_3 ?_
  refine wx_iconst C 1 dX11_isDot_6 (by decide) ?_
  refine wx_isub C dX11_isDot_7 ?_
  refine ca_X11_78 C (rest := []) (t_X11_isIn X.1 M L x 0 (M 149 0 - 1)) (by decide) rfl rfl (Nat.le_of_ble_eq_true rfl) dX11_isDot_8 (kI fun r8 M8 L8 q8 => ?_)
  obtain ⟨rfl, rfl, rfl⟩ := q8
  refine wx_zret C hQ dX11_isDot_11 (bI_nar _) ?_
  exact ⟨_, rfl, by rw [hn, inW_p (by omega)], rfl, rfl⟩
def mHas (M : g_M) (e : Nat) (x : Int32) : Bool := dHas e x && decide (M 158 x.toNatClampNeg = 0)
theorem mHas_t {M : g_M} {x : Int32} {e : Nat} (h12 : e ≤ 12) (h : mHas M e x = true) : ∃ p, p < e ∧ x = nI p ∧ M 158 p = 0 := by
  unfold mHas at h
  rw [Bool.and_eq_true, decide_eq_true_eq] at h
  obtain ⟨p, hp, rfl⟩ := dHas_t (by omega) h.1
  have h2 := h.2
  rw [nI_clamp (by omega)] at h2
  exact ⟨p, hp, rfl, h2⟩
set_option maxHeartbeats 4000000 in
set_option maxRecDepth 100000 in
theorem t_X11_isPath (G : g_G) (M : g_M) (L : g_L) (x : Int32) {e : Nat} (he : M 149 1 = nI e) (h12 : e ≤ 12) : mt G yX11_isPath (Cond.code yX11_isPath cX11_isPath 2 (some .boolean)) 1 [.ref (G.1 + 149), .int x] M L (qI fun v M' L' => v = bI (mHas M e x) ∧ M = M' ∧ L = L') := by
  refine mt_of (by decide) rfl (Nat.le_of_ble_eq_true rfl) [(0, .ref (G.1 + 149)), (1, .int x)] rfl (fun X hG C hQ => ?_)
  subst hG
  refine wx_iload_n C 1 dX11_isPath_0 rfl rfl ?_
  refine wx_iconst C 0 dX11_isPath_1 (by decide) ?_
  refine wx_aload_n C 0 dX11_isPath_2 rfl rfl ?_
  refine gf_X11_82 C dX11_isPath_3 ?_
  refine wx_iconst C 1 dX11_isPath_6 (by decide) ?_
  refine wx_isub C dX11_isPath_7 ?_
  refine ca_X11_78 C (rest := []) (t_X11_isIn X.1 M L x 0 (M 149 1 - 1)) (by decide) rfl rfl (Nat.le_of_ble_eq_true rfl) dX11_isPath_8 (kI fun r8 M8 L8 q8 => ?_)
  obtain ⟨rfl, rfl, rfl⟩ := q8
  refine wx_if_eq C 27 dX11_isPath_11 (by decide) (fun c11 => ?_) (fun c11 => ?_)
  · refine wx_iconst C 0 dX11_isPath_27 (by decide) ?_
    refine wx_zret C hQ dX11_isPath_28 (by decide) ?_
    refine ⟨_, rfl, ?_, rfl, rfl⟩
    unfold mHas
    first
    | (have hin := bI_0.mp c11
       rw [he, inW_p (by omega)] at hin
       rw [hin, Bool.false_and]
       rfl)
    | (rw [nI_clamp (by omega), decide_eq_false c20, Bool.and_false]; rfl)
  · have hin := bI_n0.mp c11
    rw [he, inW_p (by omega)] at hin
    obtain ⟨p, hp, rfl⟩ := dHas_t (by omega) hin
    refine wx_aload_n C 0 dX11_isPath_14 rfl rfl ?_
    refine gf_X11_44 C dX11_isPath_15 ?_
    refine wx_iload_n C 1 dX11_isPath_18 rfl rfl ?_
    refine wx_zald C 158 p (by decide) (fun _ _ => rfl) (by decide) dX11_isPath_19 rfl (by omega) ?_
    refine wx_if_ne C 27 dX11_isPath_20 (by decide) (fun c20 => ?_) (fun c20 => ?_)
    · refine wx_iconst C 0 dX11_isPath_27 (by decide) ?_
      refine wx_zret C hQ dX11_isPath_28 (by decide) ?_
      refine ⟨_, rfl, ?_, rfl, rfl⟩
      unfold mHas
      first
      | (have hin := bI_0.mp c11
         rw [he, inW_p (by omega)] at hin
         rw [hin, Bool.false_and]
         rfl)
      | (rw [nI_clamp (by omega), decide_eq_false c20, Bool.and_false]; rfl)
    · refine wx_iconst C 1 dX11_isPath_23 (by decide) ?_
      refine wx_goto C 28 dX11_isPath_24 (by decide) ?_
      refine wx_zret C hQ dX11_isPath_28 (by decide) ?_
      refine ⟨_, rfl, ?_, rfl, rfl⟩
      unfold mHas
      rw [nI_clamp (by omega), hin, decide_eq_true c20]
      rfl
set_option maxHeartbeats 4000000 in
set_option maxRecDepth 100000 in
theorem t_X11_night (G : g_G) (M : g_M) (L : g_L) {x : Int32} {e : Nat} (hx : x = nI e) (he : e < 60) : mt G yX11_night (Cond.code yX11_night cX11_night 2 (some .int)) 0 [.ref (G.1 + 149), .int x] M L (qI fun v M' L' => v = M 150 e / 24 ∧ M = M' ∧ L = L') := by
  refine mt_of (by decide) rfl (Nat.le_of_ble_eq_true rfl) [(0, .ref (G.1 + 149)), (1, .int x)] rfl (fun X hG C hQ => ?_)
  subst hG
  refine wx_aload_n C 0 dX11_night_0 rfl rfl ?_
  refine gf_X11_19 C dX11_night_1 ?_
  refine wx_iload_n C 1 dX11_night_4 rfl rfl ?_
  refine wx_iald C 150 e (by decide) (fun _ _ => rfl) (by decide) dX11_night_5 hx he ?_
  refine wx_bipush C 24 dX11_night_6 (by decide) ?_
  refine wx_idiv C dX11_night_8 (by decide) ?_
  refine wx_iret C hQ dX11_night_9 ?_
  exact ⟨_, rfl, rfl, rfl, rfl⟩
set_option maxHeartbeats 4000000 in
set_option maxRecDepth 100000 in
theorem t_X11_placeOf (G : g_G) (M : g_M) (L : g_L) {x : Int32} {e : Nat} (hx : x = nI e) (he : e < 60) (ax : Int32) : mt G yX11_placeOf (Cond.code yX11_placeOf cX11_placeOf 3 (some .int)) 0 [.ref (G.1 + 149), .int x, .int ax] M L (qI fun v M' L' => v = plc (M 151) (M 152) ax e ∧ M = M' ∧ L = L') := by
  refine mt_of (by decide) rfl (Nat.le_of_ble_eq_true rfl) [(0, .ref (G.1 + 149)), (1, .int x), (2, .int ax)] rfl (fun X hG C hQ => ?_)
  subst hG
  refine wx_iload_n C 2 dX11_placeOf_0 rfl rfl ?_
  refine wx_if_ne C 13 dX11_placeOf_1 (by decide) (fun c1 => ?_) (fun c1 => ?_)
  · refine wx_aload_n C 0 dX11_placeOf_13 rfl rfl ?_
    refine gf_X11_26 C dX11_placeOf_14 ?_
    refine wx_iload_n C 1 dX11_placeOf_17 rfl rfl ?_
    refine wx_iald C 152 e (by decide) (fun _ _ => rfl) (by decide) dX11_placeOf_18 hx he ?_
    refine wx_iret C hQ dX11_placeOf_19 ?_
    exact ⟨_, rfl, by simp only [plc]; first | rw [if_pos c1] | rw [if_neg c1], rfl, rfl⟩
  · refine wx_aload_n C 0 dX11_placeOf_4 rfl rfl ?_
    refine gf_X11_23 C dX11_placeOf_5 ?_
    refine wx_iload_n C 1 dX11_placeOf_8 rfl rfl ?_
    refine wx_iald C 151 e (by decide) (fun _ _ => rfl) (by decide) dX11_placeOf_9 hx he ?_
    refine wx_goto C 19 dX11_placeOf_10 (by decide) ?_
    refine wx_iret C hQ dX11_placeOf_19 ?_
    exact ⟨_, rfl, by simp only [plc]; first | rw [if_pos c1] | rw [if_neg c1], rfl, rfl⟩
set_option maxHeartbeats 4000000 in
set_option maxRecDepth 100000 in
theorem lp_X11_take {X : g_X} {Qr : Option Value → g_M → g_L → Prop} (C : Cx X cX11_take 3 RX11 none 0) (hQ : Rx X Qr) {M : g_M} {L : g_L} {p l : Nat} (hp12 : p < 12) (h8 : l ≤ 8) (hp : Qr none (tk M l (fun b => M 157 (8 * p + b)) l) L) : ∀ (n i : Nat), i ≤ l → l < i + n → wx X (tk M l (fun b => M 157 (8 * p + b)) i) L 12 [(0, .ref (X.1.1 + 149)), (1, .int (nI p)), (2, .int (nI i))] [] := by
  intro n
  induction n with
  | zero =>
    intro i h1 h2
    exact absurd h2 (by omega)
  | succ n ih =>
    intro i hi0 hin
    refine wx_iload_n C 2 dX11_take_12 rfl rfl ?_
    refine wx_aload_n C 0 dX11_take_13 rfl rfl ?_
    refine gf_X11_96 C dX11_take_14 ?_
    refine wx_icmp_ge C 43 dX11_take_17 (by decide) (fun c17 => ?_) (fun c17 => ?_)
    · have hib : i = l := by
        rw [tk_c] at c17
        exact Nat.le_antisymm hi0 ((nI_leI (by omega) (by omega)).mp c17)
      refine wx_vret C hQ dX11_take_43 ?_
      rw [hib]
      exact hp
    · have hi : i < l := by
        rw [tk_c] at c17
        exact Nat.lt_of_not_le (fun h => c17 ((nI_leI (by omega) (by omega)).mpr h))
      refine wx_aload_n C 0 dX11_take_20 rfl rfl ?_
      refine gf_X11_48 C dX11_take_21 ?_
      refine wx_iload_n C 2 dX11_take_24 rfl rfl ?_
      refine wx_aload_n C 0 dX11_take_25 rfl rfl ?_
      refine gf_X11_41 C dX11_take_26 ?_
      refine wx_bipush C 8 dX11_take_29 (by decide) ?_
      refine wx_iload_n C 1 dX11_take_31 rfl rfl ?_
      refine wx_imul C dX11_take_32 ?_
      refine wx_iload_n C 2 dX11_take_33 rfl rfl ?_
      refine wx_iadd C dX11_take_34 ?_
      refine wx_iald C 157 (8 * p + i) (by decide) (fun _ _ => rfl) (by decide) dX11_take_35 (by rw [show (8 : Int32) = nI 8 from rfl, pk_mul, nI_add]) (by omega) ?_
      refine wx_iast C 159 i (by decide) (fun _ _ => rfl) (by decide) dX11_take_36 rfl (by omega) ?_
      refine wx_iinc C (v := (nI (i + 1))) 2 [1, 2, 0] [(0, .ref (X.1.1 + 149)), (1, .int (nI p)), (2, .int (nI (i + 1)))] dX11_take_37 rfl (nI_1 _) (by decide) rfl ?_
      refine wx_goto C 12 dX11_take_40 (by decide) ?_
      rw [tk_o M l _ i _ (by decide) (by decide), tk_1 M l (fun b => M 157 (8 * p + b)) i]
      exact ih (i + 1) (by omega) (by omega)
set_option maxHeartbeats 4000000 in
set_option maxRecDepth 100000 in
theorem t_X11_take (G : g_G) (M : g_M) (L : g_L) {x : Int32} {p l : Nat} (hx : x = nI p) (hp12 : p < 12) (hl : M 156 p = nI l) (h8 : l ≤ 8) : mt G yX11_take (Cond.code yX11_take cX11_take 3 none) 0 [.ref (G.1 + 149), .int x] M L (qV fun M' L' => L = L' ∧ M' = tk M l (fun b => M 157 (8 * p + b)) l) := by
  refine mt_of (by decide) rfl (Nat.le_of_ble_eq_true rfl) [(0, .ref (G.1 + 149)), (1, .int x)] rfl (fun X hG C hQ => ?_)
  subst hG
  refine wx_aload_n C 0 dX11_take_0 rfl rfl ?_
  refine wx_aload_n C 0 dX11_take_1 rfl rfl ?_
  refine gf_X11_38 C dX11_take_2 ?_
  refine wx_iload_n C 1 dX11_take_5 rfl rfl ?_
  refine wx_iald C 156 p (by decide) (fun _ _ => rfl) (by decide) dX11_take_6 hx hp12 ?_
  refine pf_X11_96 C dX11_take_7 ?_
  refine wx_iconst C 0 dX11_take_10 (by decide) ?_
  refine wx_istore_n C [1, 2, 0] [(0, .ref (X.1.1 + 149)), (1, .int x), (2, .int 0)] dX11_take_11 rfl (by decide) rfl ?_
  rw [hl, tk_0 M l (fun b => M 157 (8 * p + b)), hx]
  exact lp_X11_take C hQ hp12 h8 ⟨rfl, rfl, rfl⟩ (l + 1) 0 (by omega) (by omega)
set_option maxHeartbeats 4000000 in
set_option maxRecDepth 100000 in
theorem t_X11_adds (G : g_G) (M : g_M) (L : g_L) {l : Nat} (hl : M 149 15 = nI l) (h16 : l < 16) (x : Int32) : mt G yX11_adds (Cond.code yX11_adds cX11_adds 2 none) 0 [.ref (G.1 + 149), .int x] M L (qV fun M' L' => L = L' ∧ M' = g_st (g_st M 159 l x) 149 15 (nI (l + 1))) := by
  refine mt_of (by decide) rfl (Nat.le_of_ble_eq_true rfl) [(0, .ref (G.1 + 149)), (1, .int x)] rfl (fun X hG C hQ => ?_)
  subst hG
  refine wx_aload_n C 0 dX11_adds_0 rfl rfl ?_
  refine gf_X11_48 C dX11_adds_1 ?_
  refine wx_aload_n C 0 dX11_adds_4 rfl rfl ?_
  refine gf_X11_96 C dX11_adds_5 ?_
  refine wx_iload_n C 1 dX11_adds_8 rfl rfl ?_
  refine wx_iast C 159 l (by decide) (fun _ _ => rfl) (by decide) dX11_adds_9 hl h16 ?_
  refine wx_aload_n C 0 dX11_adds_10 rfl rfl ?_
  refine wx_dup C dX11_adds_11 rfl ?_
  refine gf_X11_96 C dX11_adds_12 ?_
  refine wx_iconst C 1 dX11_adds_15 (by decide) ?_
  refine wx_iadd C dX11_adds_16 ?_
  refine pf_X11_96 C dX11_adds_17 ?_
  refine wx_vret C hQ dX11_adds_20 ?_
  refine ⟨rfl, rfl, ?_⟩
  have e : g_st M 159 l x 149 15 = nI l := by rw [g_st_ap, if_neg (by omega)]; exact hl
  rw [e, nI_1]
