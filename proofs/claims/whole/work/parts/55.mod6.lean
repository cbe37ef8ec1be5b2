/-! ===== the reference: keep, own, undo, comes, begins ===== -/
theorem bI_vp (b : Bool) : vp_nar .boolean (bI b) = bI b := by cases b <;> rfl
/-- a snapshot at place k, told so far -/
def kq (M : g_M) (k u v : Nat) : g_M := fun a b => if a = 165 ∧ 12 * k ≤ b ∧ b < 12 * k + u then M 156 (b - 12 * k) else if a = 167 ∧ 12 * k ≤ b ∧ b < 12 * k + u then M 158 (b - 12 * k) else if a = 166 ∧ 96 * k ≤ b ∧ b < 96 * k + v then M 157 (b - 96 * k) else M a b
theorem kq_o (M : g_M) (k u v : Nat) {a : Nat} (b : Nat) (h : a < 165) : kq M k u v a b = M a b := by
  unfold kq
  rw [if_neg (by omega), if_neg (by omega), if_neg (by omega)]
theorem kq_0 (M : g_M) (k : Nat) : kq M k 0 0 = M := by
  funext a b
  unfold kq
  rw [if_neg (by omega), if_neg (by omega), if_neg (by omega)]
theorem kq_1 (M : g_M) (k p v : Nat) : g_st (g_st (kq M k p v) 165 (12 * k + p) (M 156 p)) 167 (12 * k + p) (M 158 p) = kq M k (p + 1) v := by
  funext a b
  simp only [g_st_ap, kq]
  (repeat' split) <;> first | rfl | (exfalso; omega) | (congr 1; omega)
theorem kq_2 (M : g_M) (k p u i : Nat) : g_st (kq M k u (8 * p + i)) 166 ((12 * k + p) * 8 + i) (M 157 (8 * p + i)) = kq M k u (8 * p + (i + 1)) := by
  funext a b
  simp only [g_st_ap, kq]
  (repeat' split) <;> first | rfl | (exfalso; omega) | (congr 1; omega)
def kpM (M : g_M) (k fa ac : Nat) : g_M := kq (g_st (g_st (g_st M 149 27 (nI fa)) 149 26 (nI ac)) 164 k (M 149 1)) k 12 96
set_option maxHeartbeats 4000000 in
set_option maxRecDepth 100000 in
theorem lp_X11_keep_i {X : g_X} {Qr : Option Value → g_M → g_L → Prop} (C : Cx X cX11_keep 4 RX11 none 0) (hQ : Rx X Qr) {M : g_M} {L : g_L} {k p : Nat} (hk30 : k < 30) (hp12 : p < 12) (K : wx X (kq M k (p + 1) (8 * (p + 1))) L 67 [(0, .ref (X.1.1 + 149)), (1, .int (nI k)), (2, .int (nI (p + 1)))] []) : ∀ (n i : Nat), i ≤ 8 → 8 < i + n → wx X (kq M k (p + 1) (8 * p + i)) L 109 [(0, .ref (X.1.1 + 149)), (1, .int (nI k)), (2, .int (nI p)), (3, .int (nI i))] [] := by
  intro n
  induction n with
  | zero =>
    intro i h1 h2
    exact absurd h2 (by omega)
  | succ n ih =>
    intro i hi0 hin
    refine wx_iload_n C 3 dX11_keep_109 rfl rfl ?_
    refine wx_bipush C 8 dX11_keep_110 (by decide) ?_
    refine wx_icmp_ge C 148 dX11_keep_112 (by decide) (fun c112 => ?_) (fun c112 => ?_)
    · have hib : i = 8 := by
        rw [show (8 : Int32) = nI 8 from rfl] at c112
        exact Nat.le_antisymm hi0 ((nI_leI (by omega) (by omega)).mp c112)
      refine wx_iinc C (v := (nI (p + 1))) 2 [1, 2, 0, 3] [(0, .ref (X.1.1 + 149)), (1, .int (nI k)), (2, .int (nI (p + 1))), (3, .int (nI i))] dX11_keep_148 rfl (nI_1 _) (by decide) rfl ?_
      refine wx_goto C 67 dX11_keep_151 (by decide) ?_
      rw [hib]
      exact wx_sub [0, 1, 2] rfl K
    · have hi : i < 8 := by
        rw [show (8 : Int32) = nI 8 from rfl] at c112
        exact Nat.lt_of_not_le (fun h => c112 ((nI_leI (by omega) (by omega)).mpr h))
      refine wx_aload_n C 0 dX11_keep_115 rfl rfl ?_
      refine gf_X11_69 C dX11_keep_116 ?_
      refine wx_bipush C 12 dX11_keep_119 (by decide) ?_
      refine wx_iload_n C 1 dX11_keep_121 rfl rfl ?_
      refine wx_imul C dX11_keep_122 ?_
      refine wx_iload_n C 2 dX11_keep_123 rfl rfl ?_
      refine wx_iadd C dX11_keep_124 ?_
      refine wx_bipush C 8 dX11_keep_125 (by decide) ?_
      refine wx_imul C dX11_keep_127 ?_
      refine wx_iload_n C 3 dX11_keep_128 rfl rfl ?_
      refine wx_iadd C dX11_keep_129 ?_
      refine wx_aload_n C 0 dX11_keep_130 rfl rfl ?_
      refine gf_X11_41 C dX11_keep_131 ?_
      refine wx_bipush C 8 dX11_keep_134 (by decide) ?_
      refine wx_iload_n C 2 dX11_keep_136 rfl rfl ?_
      refine wx_imul C dX11_keep_137 ?_
      refine wx_iload_n C 3 dX11_keep_138 rfl rfl ?_
      refine wx_iadd C dX11_keep_139 ?_
      refine wx_iald C 157 (8 * p + i) (by decide) (fun _ _ => rfl) (by decide) dX11_keep_140 (by rw [show (8 : Int32) = nI 8 from rfl, pk_mul, nI_add]) (by omega) ?_
      refine wx_iast C 166 ((12 * k + p) * 8 + i) (by decide) (fun _ _ => rfl) (by decide) dX11_keep_141 (by rw [show (12 : Int32) = nI 12 from rfl, show (8 : Int32) = nI 8 from rfl, pk_mul, nI_add, pk_mul, nI_add]) (by omega) ?_
      refine wx_iinc C (v := (nI (i + 1))) 3 [1, 2, 3, 0] [(0, .ref (X.1.1 + 149)), (1, .int (nI k)), (2, .int (nI p)), (3, .int (nI (i + 1)))] dX11_keep_142 rfl (nI_1 _) (by decide) rfl ?_
      refine wx_goto C 109 dX11_keep_145 (by decide) ?_
      rw [kq_o M k _ _ _ (by decide), kq_2]
      exact ih (i + 1) (by omega) (by omega)
set_option maxHeartbeats 4000000 in
set_option maxRecDepth 100000 in
theorem lp_X11_keep {X : g_X} {Qr : Option Value → g_M → g_L → Prop} (C : Cx X cX11_keep 4 RX11 none 0) (hQ : Rx X Qr) {M : g_M} {L : g_L} {k : Nat} {go : Nat → Bool} (hk30 : k < 30) (hgo : ∀ p, p < 12 → M 158 p = bI (go p)) (hp : Qr none (kq M k 12 96) L) : ∀ (n i : Nat), i ≤ 12 → 12 < i + n → wx X (kq M k i (8 * i)) L 67 [(0, .ref (X.1.1 + 149)), (1, .int (nI k)), (2, .int (nI i))] [] := by
  intro n
  induction n with
  | zero =>
    intro i h1 h2
    exact absurd h2 (by omega)
  | succ n ih =>
    intro i hi0 hin
    refine wx_iload_n C 2 dX11_keep_67 rfl rfl ?_
    refine wx_bipush C 12 dX11_keep_68 (by decide) ?_
    refine wx_icmp_ge C 154 dX11_keep_70 (by decide) (fun c70 => ?_) (fun c70 => ?_)
    · have hib : i = 12 := by
        rw [show (12 : Int32) = nI 12 from rfl] at c70
        exact Nat.le_antisymm hi0 ((nI_leI (by omega) (by omega)).mp c70)
      refine wx_vret C hQ dX11_keep_154 ?_
      rw [hib]
      exact hp
    · have hi : i < 12 := by
        rw [show (12 : Int32) = nI 12 from rfl] at c70
        exact Nat.lt_of_not_le (fun h => c70 ((nI_leI (by omega) (by omega)).mpr h))
      refine wx_aload_n C 0 dX11_keep_73 rfl rfl ?_
      refine gf_X11_66 C dX11_keep_74 ?_
      refine wx_bipush C 12 dX11_keep_77 (by decide) ?_
      refine wx_iload_n C 1 dX11_keep_79 rfl rfl ?_
      refine wx_imul C dX11_keep_80 ?_
      refine wx_iload_n C 2 dX11_keep_81 rfl rfl ?_
      refine wx_iadd C dX11_keep_82 ?_
      refine wx_aload_n C 0 dX11_keep_83 rfl rfl ?_
      refine gf_X11_38 C dX11_keep_84 ?_
      refine wx_iload_n C 2 dX11_keep_87 rfl rfl ?_
      refine wx_iald C 156 i (by decide) (fun _ _ => rfl) (by decide) dX11_keep_88 rfl (by omega) ?_
      refine wx_iast C 165 (12 * k + i) (by decide) (fun _ _ => rfl) (by decide) dX11_keep_89 (by rw [show (12 : Int32) = nI 12 from rfl, pk_mul, nI_add]) (by omega) ?_
      refine wx_aload_n C 0 dX11_keep_90 rfl rfl ?_
      refine gf_X11_72 C dX11_keep_91 ?_
      refine wx_bipush C 12 dX11_keep_94 (by decide) ?_
      refine wx_iload_n C 1 dX11_keep_96 rfl rfl ?_
      refine wx_imul C dX11_keep_97 ?_
      refine wx_iload_n C 2 dX11_keep_98 rfl rfl ?_
      refine wx_iadd C dX11_keep_99 ?_
      refine wx_aload_n C 0 dX11_keep_100 rfl rfl ?_
      refine gf_X11_44 C dX11_keep_101 ?_
      refine wx_iload_n C 2 dX11_keep_104 rfl rfl ?_
      refine wx_zald C 158 i (by decide) (fun _ _ => rfl) (by decide) dX11_keep_105 rfl (by omega) ?_
      refine wx_zast C 167 (12 * k + i) (by decide) (fun _ _ => rfl) (by decide) dX11_keep_106 (by rw [show (12 : Int32) = nI 12 from rfl, pk_mul, nI_add]) (by omega) (by rw [g_st_ap, if_neg (by omega), kq_o M k _ _ _ (by decide), hgo i hi]; exact bI_vp _) ?_
      refine wx_iconst C 0 dX11_keep_107 (by decide) ?_
      refine wx_istore_n C [1, 2, 3, 0] [(0, .ref (X.1.1 + 149)), (1, .int (nI k)), (2, .int (nI i)), (3, .int 0)] dX11_keep_108 rfl (by decide) rfl ?_
      rw [show g_st (kq M k i (8 * i)) 165 (12 * k + i) (kq M k i (8 * i) 156 i) 158 i = M 158 i from (by rw [g_st_ap, if_neg (by omega)]; exact kq_o M k _ _ _ (by decide)), kq_o M k _ _ _ (by decide), kq_1]
      exact lp_X11_keep_i C hQ hk30 hi (ih (i + 1) (by omega) (by omega)) 9 0 (by omega) (by omega)
set_option maxHeartbeats 4000000 in
set_option maxRecDepth 100000 in
/-- where the next snapshot goes -/
theorem e_X11_keep {X : g_X} {Qr : Option Value → g_M → g_L → Prop} (C : Cx X cX11_keep 4 RX11 none 0) (hQ : Rx X Qr) {N M : g_M} {L : g_L} {f c : Nat} {go : Nat → Bool} (hf : N 149 27 = nI f) (hf30 : f < 30) (hc : N 149 26 = nI c) (hc30 : c < 30) (hgo : ∀ p, p < 12 → N 158 p = bI (go p)) (hE : g_st (g_st N 149 26 (nI (c + 1))) 164 ((f + c) % 30) (N 149 1) = M) (hp : Qr none (kq M ((f + c) % 30) 12 96) L) : wx X N L 32 [(0, .ref (X.1.1 + 149))] [] := by
  refine wx_aload_n C 0 dX11_keep_32 rfl rfl ?_
  refine gf_X11_169 C dX11_keep_33 ?_
  refine wx_aload_n C 0 dX11_keep_36 rfl rfl ?_
  refine gf_X11_85 C dX11_keep_37 ?_
  refine wx_iadd C dX11_keep_40 ?_
  refine wx_bipush C 30 dX11_keep_41 (by decide) ?_
  refine wx_irem C dX11_keep_43 (by decide) ?_
  refine wx_nmi (fun kx hkx => ?_)
  refine wx_istore_n C [1, 0] [(0, .ref (X.1.1 + 149)), (1, .int kx)] dX11_keep_44 rfl (by decide) rfl ?_
  refine wx_aload_n C 0 dX11_keep_45 rfl rfl ?_
  refine wx_dup C dX11_keep_46 rfl ?_
  refine gf_X11_85 C dX11_keep_47 ?_
  refine wx_iconst C 1 dX11_keep_50 (by decide) ?_
  refine wx_iadd C dX11_keep_51 ?_
  refine pf_X11_85 C dX11_keep_52 ?_
  refine wx_aload_n C 0 dX11_keep_55 rfl rfl ?_
  refine gf_X11_63 C dX11_keep_56 ?_
  refine wx_iload_n C 1 dX11_keep_59 rfl rfl ?_
  refine wx_aload_n C 0 dX11_keep_60 rfl rfl ?_
  refine gf_X11_82 C dX11_keep_61 ?_
  refine wx_iast C 164 ((f + c) % 30) (by decide) (fun _ _ => rfl) (by decide) dX11_keep_64 (by rw [hkx, hf, hc, nI_add, show (30 : Int32) = nI 30 from rfl, pk_rem (by omega) (by omega) (by omega)]) (by omega) ?_
  refine wx_iconst C 0 dX11_keep_65 (by decide) ?_
  refine wx_istore_n C [1, 2, 0] [(0, .ref (X.1.1 + 149)), (1, .int kx), (2, .int 0)] dX11_keep_66 rfl (by decide) rfl ?_
  have ek : kx = nI ((f + c) % 30) := by rw [hkx, hf, hc, nI_add, show (30 : Int32) = nI 30 from rfl, pk_rem (by omega) (by omega) (by omega)]
  rw [ek, hc, nI_1, show g_st N 149 26 (nI (c + 1)) 149 1 = N 149 1 from (by rw [g_st_ap, if_neg (by decide)]), hE]
  have h := lp_X11_keep (M := M) C hQ (k := (f + c) % 30) (go := go) (by omega) (fun p hp12 => by rw [← hE, g_st_ap, if_neg (by omega), g_st_ap, if_neg (by omega)]; exact hgo p hp12) hp 13 0 (by omega) (by omega)
  rw [kq_0] at h
  exact h
def kfa (fa ac : Nat) : Nat := if ac = 30 then (fa + 1) % 30 else fa
theorem k_slot {fa ac : Nat} (hf : fa < 30) (ha : ac ≤ 30) (h : ac = 30) : ((fa + 1) % 30 + (30 - 1)) % 30 = (fa + ac) % 30 := by omega
set_option maxHeartbeats 4000000 in
set_option maxRecDepth 100000 in
theorem t_X11_keep (G : g_G) (M : g_M) (L : g_L) {fa ac : Nat} {go : Nat → Bool} (hf : M 149 27 = nI fa) (hf30 : fa < 30) (hc : M 149 26 = nI ac) (hc30 : ac ≤ 30) (hgo : ∀ p, p < 12 → M 158 p = bI (go p)) : mt G yX11_keep (Cond.code yX11_keep cX11_keep 4 none) 0 [.ref (G.1 + 149)] M L (qV fun M' L' => L = L' ∧ M' = kpM M ((fa + ac) % 30) (kfa fa ac) (min (ac + 1) 30)) := by
  refine mt_of (by decide) rfl (Nat.le_of_ble_eq_true rfl) [(0, .ref (G.1 + 149))] rfl (fun X hG C hQ => ?_)
  subst hG
  refine wx_aload_n C 0 dX11_keep_0 rfl rfl ?_
  refine gf_X11_85 C dX11_keep_1 ?_
  refine wx_bipush C 30 dX11_keep_4 (by decide) ?_
  refine wx_icmp_ne C 32 dX11_keep_6 (by decide) (fun c6 => ?_) (fun c6 => ?_)
  · have h30 : ¬ ac = 30 := fun z => c6 (by rw [hc, z]; rfl)
    refine e_X11_keep C hQ hf hf30 hc (by omega) hgo rfl ⟨rfl, rfl, ?_⟩
    unfold kpM kfa
    rw [if_neg h30, Nat.min_eq_left (by omega), ← hf]
    congr 1
    congr 1
    funext a b
    simp only [g_st_ap]
    (repeat' split) <;> first | rfl | (exfalso; omega) | (rename_i h1 h2; rw [h2.1, h2.2]) | (rename_i h1 h2 _; rw [h2.1, h2.2])
  · refine wx_aload_n C 0 dX11_keep_9 rfl rfl ?_
    refine wx_aload_n C 0 dX11_keep_10 rfl rfl ?_
    refine gf_X11_169 C dX11_keep_11 ?_
    refine wx_iconst C 1 dX11_keep_14 (by decide) ?_
    refine wx_iadd C dX11_keep_15 ?_
    refine wx_bipush C 30 dX11_keep_16 (by decide) ?_
    refine wx_irem C dX11_keep_18 (by decide) ?_
    refine pf_X11_169 C dX11_keep_19 ?_
    refine wx_aload_n C 0 dX11_keep_22 rfl rfl ?_
    refine wx_dup C dX11_keep_23 rfl ?_
    refine gf_X11_85 C dX11_keep_24 ?_
    refine wx_iconst C 1 dX11_keep_27 (by decide) ?_
    refine wx_isub C dX11_keep_28 ?_
    refine pf_X11_85 C dX11_keep_29 ?_
    have h30 : ac = 30 := nI_inj (by omega) (by decide) (by rw [← hc]; exact c6)
    have e27 : M 149 27 + 1 - (M 149 27 + 1) / 30 * 30 = nI ((fa + 1) % 30) := by rw [hf, nI_1, show (30 : Int32) = nI 30 from rfl, pk_rem (by omega) (by omega) (by omega)]
    have e26 : g_st M 149 27 (nI ((fa + 1) % 30)) 149 26 - 1 = nI 29 := by rw [g_st_ap, if_neg (by decide), hc, h30]; rfl
    rw [e27, e26]
    have es : ((fa + 1) % 30 + 29) % 30 = (fa + ac) % 30 := by omega
    refine e_X11_keep C hQ (f := (fa + 1) % 30) (c := 29) (by rw [g_st_ap, if_neg (by decide), g_st_ap, if_pos ⟨rfl, rfl⟩]) (by omega) (by rw [g_st_ap, if_pos ⟨rfl, rfl⟩]) (by decide) (fun p hp12 => by rw [g_st_ap, if_neg (by omega), g_st_ap, if_neg (by omega)]; exact hgo p hp12) rfl ⟨rfl, rfl, ?_⟩
    unfold kpM kfa
    rw [if_pos h30, es, h30, show min (30 + 1) 30 = 30 from rfl]
    congr 1
    funext a b
    simp only [g_st_ap]
    (repeat' split) <;> first | rfl | (exfalso; omega)
/-! own -/
def ow1 (M : g_M) (i : Nat) : g_M := fun a b => if a = 154 ∧ b < i then -1 else M a b
def pz (M : g_M) (r : Nat → Nat) (v : Int32) : Nat → g_M
  | 0 => M
  | i + 1 => g_st (pz M r v i) 154 (r i) v
def oz (M : g_M) (sz : Nat → Nat) (rr : Nat → Nat → Nat) : Nat → g_M
  | 0 => M
  | p + 1 => pz (oz M sz rr p) (rr p) (nI p) (sz p)
theorem ow1_o (M : g_M) (i : Nat) {a : Nat} (b : Nat) (h : a ≠ 154) : ow1 M i a b = M a b := by
  unfold ow1; rw [if_neg (by omega)]
theorem pz_o (M : g_M) (r : Nat → Nat) (v : Int32) {a : Nat} (b : Nat) (h : a ≠ 154) : ∀ i, pz M r v i a b = M a b
  | 0 => rfl
  | i + 1 => by rw [pz, g_st_ap, if_neg (by omega)]; exact pz_o M r v b h i
theorem pz_in (M : g_M) (r : Nat → Nat) (v : Int32) {b : Nat} : ∀ i, (∃ q, q < i ∧ r q = b) → pz M r v i 154 b = v
  | 0, h => by obtain ⟨q, hq, _⟩ := h; omega
  | i + 1, h => by
    rw [pz, g_st_ap]
    by_cases hb : b = r i
    · rw [if_pos ⟨rfl, hb⟩]
    · rw [if_neg (fun z => hb z.2)]
      obtain ⟨q, hq, e⟩ := h
      refine pz_in M r v i ⟨q, ?_, e⟩
      have : q ≠ i := fun z => hb (by rw [← e, z])
      omega
theorem pz_no (M : g_M) (r : Nat → Nat) (v : Int32) {b : Nat} : ∀ i, (∀ q, q < i → r q ≠ b) → pz M r v i 154 b = M 154 b
  | 0, _ => rfl
  | i + 1, h => by
    rw [pz, g_st_ap, if_neg (fun z => h i (by omega) z.2.symm)]
    exact pz_no M r v i (fun q hq => h q (by omega))
theorem oz_o (M : g_M) (sz : Nat → Nat) (rr : Nat → Nat → Nat) {a : Nat} (b : Nat) (h : a ≠ 154) : ∀ p, oz M sz rr p a b = M a b
  | 0 => rfl
  | p + 1 => by rw [oz, pz_o _ _ _ _ h]; exact oz_o M sz rr b h p
/-- who owns a dot that one path has -/
theorem oz_in (M : g_M) (sz : Nat → Nat) (rr : Nat → Nat → Nat) {d p : Nat} (hu : ∀ q i, i < sz q → rr q i = d → q = p) {i : Nat} (hi : i < sz p) (hd : rr p i = d) : ∀ e, p < e → oz M sz rr e 154 d = nI p
  | 0, h => by omega
  | e + 1, h => by
    rw [oz]
    by_cases hp : p = e
    · subst hp
      exact pz_in _ _ _ _ ⟨i, hi, hd⟩
    · rw [pz_no _ _ _ _ (fun q hq z => hp (hu e q hq z).symm)]
      exact oz_in M sz rr hu hi hd e (by omega)
theorem oz_no (M : g_M) (sz : Nat → Nat) (rr : Nat → Nat → Nat) {d : Nat} : ∀ e, (∀ p i, p < e → i < sz p → rr p i ≠ d) → oz M sz rr e 154 d = M 154 d
  | 0, _ => rfl
  | e + 1, h => by
    rw [oz, pz_no _ _ _ _ (fun q hq => h e q (by omega) hq)]
    exact oz_no M sz rr e (fun p i hp hi => h p i (by omega) hi)
set_option maxHeartbeats 4000000 in
set_option maxRecDepth 100000 in
theorem lp_X11_own_i {X : g_X} {Qr : Option Value → g_M → g_L → Prop} (C : Cx X cX11_own 3 RX11 none 0) (hQ : Rx X Qr) {M : g_M} {L : g_L} {p l : Nat} {r : Nat → Nat} {v : Int32} (hp12 : p < 12) (hr : mrw M p l r) (K : wx X (pz M r (nI p) l) L 25 [(0, .ref (X.1.1 + 149)), (1, .int (nI (p + 1)))] []) : ∀ (n i : Nat), i ≤ l → l < i + n → wx X (pz M r (nI p) i) L 35 [(0, .ref (X.1.1 + 149)), (1, .int (nI p)), (2, .int (nI i))] [] := by
  intro n
  induction n with
  | zero =>
    intro i h1 h2
    exact absurd h2 (by omega)
  | succ n ih =>
    intro i hi0 hin
    have h156 : pz M r (nI p) i 156 p = nI l := by rw [pz_o _ _ _ _ (by decide)]; exact hr.1
    have h8 := hr.2.1
    refine wx_iload_n C 2 dX11_own_35 rfl rfl ?_
    refine wx_aload_n C 0 dX11_own_36 rfl rfl ?_
    refine gf_X11_38 C dX11_own_37 ?_
    refine wx_iload_n C 1 dX11_own_40 rfl rfl ?_
    refine wx_iald C 156 p (by decide) (fun _ _ => rfl) (by decide) dX11_own_41 rfl (by omega) ?_
    refine wx_icmp_ge C 68 dX11_own_42 (by decide) (fun c42 => ?_) (fun c42 => ?_)
    · have hib : i = l := by
        rw [h156] at c42
        exact Nat.le_antisymm hi0 ((nI_leI (by omega) (by omega)).mp c42)
      refine wx_iinc C (v := (nI (p + 1))) 1 [1, 0, 2] [(0, .ref (X.1.1 + 149)), (1, .int (nI (p + 1))), (2, .int (nI i))] dX11_own_68 rfl (nI_1 _) (by decide) rfl ?_
      refine wx_goto C 25 dX11_own_71 (by decide) ?_
      rw [hib]
      exact wx_sub [0, 1] rfl K
    · have hi : i < l := by
        rw [h156] at c42
        exact Nat.lt_of_not_le (fun h => c42 ((nI_leI (by omega) (by omega)).mpr h))
      have h157 : pz M r (nI p) i 157 (8 * p + i) = nI (r i) := by rw [pz_o _ _ _ _ (by decide)]; exact (hr.2.2 i hi).1
      refine wx_aload_n C 0 dX11_own_45 rfl rfl ?_
      refine gf_X11_32 C dX11_own_46 ?_
      refine wx_aload_n C 0 dX11_own_49 rfl rfl ?_
      refine gf_X11_41 C dX11_own_50 ?_
      refine wx_bipush C 8 dX11_own_53 (by decide) ?_
      refine wx_iload_n C 1 dX11_own_55 rfl rfl ?_
      refine wx_imul C dX11_own_56 ?_
      refine wx_iload_n C 2 dX11_own_57 rfl rfl ?_
      refine wx_iadd C dX11_own_58 ?_
      refine wx_iald C 157 (8 * p + i) (by decide) (fun _ _ => rfl) (by decide) dX11_own_59 (by rw [show (8 : Int32) = nI 8 from rfl, pk_mul, nI_add]) (by omega) ?_
      refine wx_iload_n C 1 dX11_own_60 rfl rfl ?_
      refine wx_iast C 154 (r i) (by decide) (fun _ _ => rfl) (by decide) dX11_own_61 h157 (hr.2.2 i hi).2 ?_
      refine wx_iinc C (v := (nI (i + 1))) 2 [1, 2, 0] [(0, .ref (X.1.1 + 149)), (1, .int (nI p)), (2, .int (nI (i + 1)))] dX11_own_62 rfl (nI_1 _) (by decide) rfl ?_
      refine wx_goto C 35 dX11_own_65 (by decide) ?_
      exact ih (i + 1) (by omega) (by omega)
set_option maxHeartbeats 4000000 in
set_option maxRecDepth 100000 in
theorem lp_X11_own {X : g_X} {Qr : Option Value → g_M → g_L → Prop} (C : Cx X cX11_own 3 RX11 none 0) (hQ : Rx X Qr) {M : g_M} {L : g_L} {n e : Nat} {sz : Nat → Nat} {rr : Nat → Nat → Nat} (he : M 149 1 = nI e) (h12 : e ≤ 12) (hr : ∀ p, p < e → mrw M p (sz p) (rr p)) (hp : Qr none (oz M sz rr e) L) : ∀ (kk i : Nat), i ≤ e → e < i + kk → wx X (oz M sz rr i) L 25 [(0, .ref (X.1.1 + 149)), (1, .int (nI i))] [] := by
  intro kk
  induction kk with
  | zero =>
    intro i h1 h2
    exact absurd h2 (by omega)
  | succ kk ih =>
    intro i hi0 hin
    have hE : oz M sz rr i 149 1 = nI e := by rw [oz_o _ _ _ _ (by decide)]; exact he
    refine wx_iload_n C 1 dX11_own_25 rfl rfl ?_
    refine wx_aload_n C 0 dX11_own_26 rfl rfl ?_
    refine gf_X11_82 C dX11_own_27 ?_
    refine wx_icmp_ge C 74 dX11_own_30 (by decide) (fun c30 => ?_) (fun c30 => ?_)
    · have hib : i = e := by
        rw [hE] at c30
        exact Nat.le_antisymm hi0 ((nI_leI (by omega) (by omega)).mp c30)
      refine wx_vret C hQ dX11_own_74 ?_
      rw [hib]
      exact hp
    · have hi : i < e := by
        rw [hE] at c30
        exact Nat.lt_of_not_le (fun h => c30 ((nI_leI (by omega) (by omega)).mpr h))
      refine wx_iconst C 0 dX11_own_33 (by decide) ?_
      refine wx_istore_n C [1, 2, 0] [(0, .ref (X.1.1 + 149)), (1, .int (nI i)), (2, .int 0)] dX11_own_34 rfl (by decide) rfl ?_
      have hw : mrw (oz M sz rr i) i (sz i) (rr i) := by
        unfold mrw
        rw [oz_o _ _ _ _ (by decide)]
        refine ⟨(hr i hi).1, (hr i hi).2.1, fun j hj => ?_⟩
        rw [oz_o _ _ _ _ (by decide)]
        exact (hr i hi).2.2 j hj
      exact lp_X11_own_i (v := 0) C hQ (by omega) hw (ih (i + 1) (by omega) (by omega)) (sz i + 1) 0 (by omega) (by omega)
set_option maxHeartbeats 4000000 in
set_option maxRecDepth 100000 in
theorem lp_X11_own0 {X : g_X} {Qr : Option Value → g_M → g_L → Prop} (C : Cx X cX11_own 3 RX11 none 0) (hQ : Rx X Qr) {M : g_M} {L : g_L} {n e : Nat} {sz : Nat → Nat} {rr : Nat → Nat → Nat} (hn : M 149 0 = nI n) (h60 : n ≤ 60) (he : M 149 1 = nI e) (h12 : e ≤ 12) (hr : ∀ p, p < e → mrw M p (sz p) (rr p)) (hp : Qr none (oz (ow1 M n) sz rr e) L) : ∀ (kk i : Nat), i ≤ n → n < i + kk → wx X (ow1 M i) L 2 [(0, .ref (X.1.1 + 149)), (1, .int (nI i))] [] := by
  intro kk
  induction kk with
  | zero =>
    intro i h1 h2
    exact absurd h2 (by omega)
  | succ kk ih =>
    intro i hi0 hin
    have hN : ow1 M i 149 0 = nI n := by rw [ow1_o _ _ _ (by decide)]; exact hn
    refine wx_iload_n C 1 dX11_own_2 rfl rfl ?_
    refine wx_aload_n C 0 dX11_own_3 rfl rfl ?_
    refine gf_X11_75 C dX11_own_4 ?_
    refine wx_icmp_ge C 23 dX11_own_7 (by decide) (fun c7 => ?_) (fun c7 => ?_)
    · have hib : i = n := by
        rw [hN] at c7
        exact Nat.le_antisymm hi0 ((nI_leI (by omega) (by omega)).mp c7)
      refine wx_iconst C 0 dX11_own_23 (by decide) ?_
      refine wx_istore_n C [1, 0] [(0, .ref (X.1.1 + 149)), (1, .int 0)] dX11_own_24 rfl (by decide) rfl ?_
      rw [hib]
      exact lp_X11_own (M := ow1 M n) (n := n) C hQ (by rw [ow1_o _ _ _ (by decide)]; exact he) h12 (fun p hp => by
        unfold mrw
        rw [ow1_o _ _ _ (by decide)]
        refine ⟨(hr p hp).1, (hr p hp).2.1, fun j hj => ?_⟩
        rw [ow1_o _ _ _ (by decide)]
        exact (hr p hp).2.2 j hj) hp (e + 1) 0 (by omega) (by omega)
    · have hi : i < n := by
        rw [hN] at c7
        exact Nat.lt_of_not_le (fun h => c7 ((nI_leI (by omega) (by omega)).mpr h))
      refine wx_aload_n C 0 dX11_own_10 rfl rfl ?_
      refine gf_X11_32 C dX11_own_11 ?_
      refine wx_iload_n C 1 dX11_own_14 rfl rfl ?_
      refine wx_iconst C (-1) dX11_own_15 (by decide) ?_
      refine wx_iast C 154 i (by decide) (fun _ _ => rfl) (by decide) dX11_own_16 rfl (by omega) ?_
      refine wx_iinc C (v := (nI (i + 1))) 1 [1, 0] [(0, .ref (X.1.1 + 149)), (1, .int (nI (i + 1)))] dX11_own_17 rfl (nI_1 _) (by decide) rfl ?_
      refine wx_goto C 2 dX11_own_20 (by decide) ?_
      rw [show g_st (ow1 M i) 154 i (-1) = ow1 M (i + 1) from (by
        funext a b
        simp only [g_st_ap, ow1]
        (repeat' split) <;> first | rfl | (exfalso; omega))]
      exact ih (i + 1) (by omega) (by omega)
set_option maxHeartbeats 4000000 in
set_option maxRecDepth 100000 in
theorem t_X11_own (G : g_G) (M : g_M) (L : g_L) {n e : Nat} {sz : Nat → Nat} {rr : Nat → Nat → Nat} (hn : M 149 0 = nI n) (h60 : n ≤ 60) (he : M 149 1 = nI e) (h12 : e ≤ 12) (hr : ∀ p, p < e → mrw M p (sz p) (rr p)) : mt G yX11_own (Cond.code yX11_own cX11_own 3 none) 0 [.ref (G.1 + 149)] M L (qV fun M' L' => L = L' ∧ M' = oz (ow1 M n) sz rr e) := by
  refine mt_of (by decide) rfl (Nat.le_of_ble_eq_true rfl) [(0, .ref (G.1 + 149))] rfl (fun X hG C hQ => ?_)
  subst hG
  refine wx_iconst C 0 dX11_own_0 (by decide) ?_
  refine wx_istore_n C [1, 0] [(0, .ref (X.1.1 + 149)), (1, .int 0)] dX11_own_1 rfl (by decide) rfl ?_
  have h := lp_X11_own0 C hQ (L := L) hn h60 he h12 hr ⟨rfl, rfl, rfl⟩ (n + 1) 0 (by omega) (by omega)
  rw [show ow1 M 0 = M from (by funext a b; unfold ow1; rw [if_neg (by omega)])] at h
  exact h
/-! comes, begins -/
def cmM (M : g_M) (p l d : Nat) : g_M := g_st (g_st (g_st M 157 (8 * p + l) (nI d)) 156 p (nI (l + 1))) 154 d (nI p)
def bgM (M : g_M) (e : Nat) (nm : Int32) : g_M := g_st (g_st (g_st (g_st M 149 1 (nI (e + 1))) 155 e nm) 156 e 0) 158 e 0
set_option maxHeartbeats 4000000 in
set_option maxRecDepth 100000 in
theorem t_X11_comes (G : g_G) (M : g_M) (L : g_L) {x y : Int32} {p l d : Nat} (hx : x = nI p) (hp12 : p < 12) (hl : M 156 p = nI l) (h8 : l < 8) (hy : y = nI d) (hd : d < 60) : mt G yX11_comes (Cond.code yX11_comes cX11_comes 3 none) 0 [.ref (G.1 + 149), .int x, .int y] M L (qV fun M' L' => L = L' ∧ M' = cmM M p l d) := by
  refine mt_of (by decide) rfl (Nat.le_of_ble_eq_true rfl) [(0, .ref (G.1 + 149)), (1, .int x), (2, .int y)] rfl (fun X hG C hQ => ?_)
  subst hG
  refine wx_aload_n C 0 dX11_comes_0 rfl rfl ?_
  refine gf_X11_41 C dX11_comes_1 ?_
  refine wx_bipush C 8 dX11_comes_4 (by decide) ?_
  refine wx_iload_n C 1 dX11_comes_6 rfl rfl ?_
  refine wx_imul C dX11_comes_7 ?_
  refine wx_aload_n C 0 dX11_comes_8 rfl rfl ?_
  refine gf_X11_38 C dX11_comes_9 ?_
  refine wx_iload_n C 1 dX11_comes_12 rfl rfl ?_
  refine wx_iald C 156 p (by decide) (fun _ _ => rfl) (by decide) dX11_comes_13 hx hp12 ?_
  refine wx_iadd C dX11_comes_14 ?_
  refine wx_iload_n C 2 dX11_comes_15 rfl rfl ?_
  refine wx_iast C 157 (8 * p + l) (by decide) (fun _ _ => rfl) (by decide) dX11_comes_16 (by rw [hl, hx, show (8 : Int32) = nI 8 from rfl, pk_mul, nI_add]) (by omega) ?_
  refine wx_aload_n C 0 dX11_comes_17 rfl rfl ?_
  refine gf_X11_38 C dX11_comes_18 ?_
  refine wx_iload_n C 1 dX11_comes_21 rfl rfl ?_
  refine wx_dup2 C dX11_comes_22 rfl rfl ?_
  refine wx_iald C 156 p (by decide) (fun _ _ => rfl) (by decide) dX11_comes_23 hx hp12 ?_
  refine wx_iconst C 1 dX11_comes_24 (by decide) ?_
  refine wx_iadd C dX11_comes_25 ?_
  refine wx_iast C 156 p (by decide) (fun _ _ => rfl) (by decide) dX11_comes_26 hx hp12 ?_
  refine wx_aload_n C 0 dX11_comes_27 rfl rfl ?_
  refine gf_X11_32 C dX11_comes_28 ?_
  refine wx_iload_n C 2 dX11_comes_31 rfl rfl ?_
  refine wx_iload_n C 1 dX11_comes_32 rfl rfl ?_
  refine wx_iast C 154 d (by decide) (fun _ _ => rfl) (by decide) dX11_comes_33 hy hd ?_
  refine wx_vret C hQ dX11_comes_34 ?_
  refine ⟨rfl, rfl, ?_⟩
  unfold cmM
  rw [show g_st M 157 (8 * p + l) y 156 p = nI l from (by rw [g_st_ap, if_neg (by omega)]; exact hl), nI_1, hx, hy]
set_option maxHeartbeats 4000000 in
set_option maxRecDepth 100000 in
theorem t_X11_begins (G : g_G) (M : g_M) (L : g_L) (nm : Int32) {n e fa ac : Nat} {sz : Nat → Nat} {rr : Nat → Nat → Nat} {go : Nat → Bool} (hM : mI M n e fa ac sz rr go) (he12 : e < 12) : mt G yX11_begins (Cond.code yX11_begins cX11_begins 3 (some .int)) 1 [.ref (G.1 + 149), .int nm] M L (qI fun v M' L' => L = L' ∧ v = nI e ∧ M' = bgM (kpM M ((fa + ac) % 30) (kfa fa ac) (min (ac + 1) 30)) e nm) := by
  refine mt_of (by decide) rfl (Nat.le_of_ble_eq_true rfl) [(0, .ref (G.1 + 149)), (1, .int nm)] rfl (fun X hG C hQ => ?_)
  subst hG
  refine wx_aload_n C 0 dX11_begins_0 rfl rfl ?_
  refine ca_X11_175 C (rest := []) (t_X11_keep X.1 M L hM.hfa hM.fa30 hM.hac hM.ac30 (fun p => hM.hgo)) (by decide) rfl (by decide) rfl rfl (Nat.le_of_ble_eq_true rfl) dX11_begins_1 (kV fun M1 L1 q1 => ?_)
  obtain ⟨rfl, rfl⟩ := q1
  have ee : kpM M ((fa + ac) % 30) (kfa fa ac) (min (ac + 1) 30) 149 1 = nI e := by
    unfold kpM
    rw [kq_o _ _ _ _ _ (by decide), g_st_ap, if_neg (by omega), g_st_ap, if_neg (by decide), g_st_ap, if_neg (by decide)]
    exact hM.he
  generalize hKP : kpM M ((fa + ac) % 30) (kfa fa ac) (min (ac + 1) 30) = KP at ee ⊢
  refine wx_aload_n C 0 dX11_begins_4 rfl rfl ?_
  refine gf_X11_82 C dX11_begins_5 ?_
  refine wx_istore_n C [1, 2, 0] [(0, .ref (X.1.1 + 149)), (1, .int nm), (2, .int (KP 149 1))] dX11_begins_8 rfl (by decide) rfl ?_
  refine wx_aload_n C 0 dX11_begins_9 rfl rfl ?_
  refine wx_dup C dX11_begins_10 rfl ?_
  refine gf_X11_82 C dX11_begins_11 ?_
  refine wx_iconst C 1 dX11_begins_14 (by decide) ?_
  refine wx_iadd C dX11_begins_15 ?_
  refine pf_X11_82 C dX11_begins_16 ?_
  refine wx_aload_n C 0 dX11_begins_19 rfl rfl ?_
  refine gf_X11_35 C dX11_begins_20 ?_
  refine wx_iload_n C 2 dX11_begins_23 rfl rfl ?_
  refine wx_iload_n C 1 dX11_begins_24 rfl rfl ?_
  refine wx_iast C 155 e (by decide) (fun _ _ => rfl) (by decide) dX11_begins_25 ee he12 ?_
  refine wx_aload_n C 0 dX11_begins_26 rfl rfl ?_
  refine gf_X11_38 C dX11_begins_27 ?_
  refine wx_iload_n C 2 dX11_begins_30 rfl rfl ?_
  refine wx_iconst C 0 dX11_begins_31 (by decide) ?_
  refine wx_iast C 156 e (by decide) (fun _ _ => rfl) (by decide) dX11_begins_32 ee he12 ?_
  refine wx_aload_n C 0 dX11_begins_33 rfl rfl ?_
  refine gf_X11_44 C dX11_begins_34 ?_
  refine wx_iload_n C 2 dX11_begins_37 rfl rfl ?_
  refine wx_iconst C 0 dX11_begins_38 (by decide) ?_
  refine wx_zast C 158 e (by decide) (fun _ _ => rfl) (by decide) dX11_begins_39 ee he12 (by decide) ?_
  refine wx_iload_n C 2 dX11_begins_40 rfl rfl ?_
  refine wx_iret C hQ dX11_begins_41 ?_
  refine ⟨_, rfl, rfl, ee, ?_⟩
  unfold bgM
  rw [ee, nI_1, hKP]
