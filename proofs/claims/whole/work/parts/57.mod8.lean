/-! ===== the reference: start, single, join, joinBit, force ===== -/
/-- dots come to a path, one behind the other -/
def cms (M : g_M) (p l : Nat) (f : Nat → Nat) : Nat → g_M
  | 0 => M
  | i + 1 => cmM (cms M p l f i) p (l + i) (f i)
theorem cmM_o (M : g_M) {p l d a : Nat} (b : Nat) (h1 : a ≠ 154) (h2 : a ≠ 156) (h3 : a ≠ 157) : cmM M p l d a b = M a b := by
  unfold cmM
  rw [g_st_ap, if_neg (by omega), g_st_ap, if_neg (by omega), g_st_ap, if_neg (by omega)]
theorem cms_o (M : g_M) {p l : Nat} {f : Nat → Nat} {a : Nat} (b : Nat) (h1 : a ≠ 154) (h2 : a ≠ 156) (h3 : a ≠ 157) : ∀ i, cms M p l f i a b = M a b
  | 0 => rfl
  | i + 1 => by rw [cms, cmM_o _ _ h1 h2 h3]; exact cms_o M b h1 h2 h3 i
theorem cms_156 (M : g_M) {p l : Nat} {f : Nat → Nat} (h : M 156 p = nI l) : ∀ i, cms M p l f i 156 p = nI (l + i)
  | 0 => h
  | i + 1 => by rw [cms]; unfold cmM; rw [g_st_ap, if_neg (by omega), g_st_ap, if_pos ⟨rfl, rfl⟩]; rfl
theorem cms_156o (M : g_M) {p l q : Nat} {f : Nat → Nat} (h : q ≠ p) : ∀ i, cms M p l f i 156 q = M 156 q
  | 0 => rfl
  | i + 1 => by rw [cms]; unfold cmM; rw [g_st_ap, if_neg (by omega), g_st_ap, if_neg (by omega), g_st_ap, if_neg (by omega)]; exact cms_156o M h i
theorem cms_157 (M : g_M) {p l : Nat} {f : Nat → Nat} {j : Nat} : ∀ i, j < i → cms M p l f i 157 (8 * p + (l + j)) = nI (f j)
  | 0, h => by omega
  | i + 1, h => by
    rw [cms]; unfold cmM
    rw [g_st_ap, if_neg (by omega), g_st_ap, if_neg (by omega), g_st_ap]
    by_cases hj : j = i
    · subst hj; rw [if_pos ⟨rfl, rfl⟩]
    · rw [if_neg (by omega)]; exact cms_157 M i (by omega)
theorem cms_157o (M : g_M) {p l b : Nat} {f : Nat → Nat} : ∀ i, (b < 8 * p + l ∨ 8 * p + (l + i) ≤ b) → cms M p l f i 157 b = M 157 b
  | 0, _ => rfl
  | i + 1, h => by
    rw [cms]; unfold cmM
    rw [g_st_ap, if_neg (by omega), g_st_ap, if_neg (by omega), g_st_ap, if_neg (by omega)]
    exact cms_157o M i (by omega)
theorem cms_in (M : g_M) {p l : Nat} {f : Nat → Nat} {b : Nat} : ∀ i, (∃ q, q < i ∧ f q = b) → cms M p l f i 154 b = nI p
  | 0, h => by obtain ⟨q, hq, _⟩ := h; omega
  | i + 1, h => by
    rw [cms]; unfold cmM
    rw [g_st_ap]
    by_cases hb : b = f i
    · rw [if_pos ⟨rfl, hb⟩]
    · rw [if_neg (fun z => hb z.2), g_st_ap, if_neg (by omega), g_st_ap, if_neg (by omega)]
      obtain ⟨q, hq, e⟩ := h
      refine cms_in M i ⟨q, ?_, e⟩
      have : q ≠ i := fun z => hb (by rw [← e, z])
      omega
theorem cms_no (M : g_M) {p l : Nat} {f : Nat → Nat} {b : Nat} : ∀ i, (∀ q, q < i → f q ≠ b) → cms M p l f i 154 b = M 154 b
  | 0, _ => rfl
  | i + 1, h => by
    rw [cms]; unfold cmM
    rw [g_st_ap, if_neg (fun z => h i (by omega) z.2.symm), g_st_ap, if_neg (by omega), g_st_ap, if_neg (by omega)]
    exact cms_no M i (fun q hq => h q (by omega))
def mKP (M : g_M) (fa ac : Nat) : g_M := kpM M ((fa + ac) % 30) (kfa fa ac) (min (ac + 1) 30)
theorem mKP_o (M : g_M) (fa ac : Nat) {a : Nat} (b : Nat) (h1 : a < 164) (h2 : a ≠ 149) : mKP M fa ac a b = M a b := by
  unfold mKP kpM
  rw [kq_o _ _ _ _ _ (by omega), g_st_ap, if_neg (by omega), g_st_ap, if_neg (by omega), g_st_ap, if_neg (by omega)]
theorem bgM_o (M : g_M) (e : Nat) (nm : Int32) {a : Nat} (b : Nat) (h1 : a ≠ 149) (h2 : a ≠ 155) (h3 : a ≠ 156) (h4 : a ≠ 158) : bgM M e nm a b = M a b := by
  unfold bgM
  rw [g_st_ap, if_neg (by omega), g_st_ap, if_neg (by omega), g_st_ap, if_neg (by omega), g_st_ap, if_neg (by omega)]
theorem bgM_156 (M : g_M) (e : Nat) (nm : Int32) : bgM M e nm 156 e = nI 0 := by
  unfold bgM
  rw [g_st_ap, if_neg (by omega), g_st_ap, if_pos ⟨rfl, rfl⟩]
  rfl
/-- a path more, of these dots -/
def mbgP (M : g_M) (e fa ac : Nat) (nm : Int32) (l2 : Nat) (r2 : Nat → Nat) (v : Int32) (M' : g_M) : Prop := (e = 12 ∧ v = -4 ∧ frM M M') ∨ (e < 12 ∧ v = nI e ∧ ∃ N, frM M N ∧ M' = cms (bgM (mKP N fa ac) e nm) e 0 r2 l2)
/-- dots more to a path -/
def mjnP (M : g_M) (fa ac p l : Nat) (l2 : Nat) (f : Nat → Nat) (v : Int32) (M' : g_M) : Prop := (8 < l + l2 ∧ v = -4 ∧ frM M M') ∨ (l + l2 ≤ 8 ∧ v = nI (l + l2) ∧ ∃ N, frM M N ∧ M' = cms (mKP N fa ac) p l f l2)
set_option maxHeartbeats 4000000 in
set_option maxRecDepth 100000 in
theorem t_X11_start (G : g_G) (M : g_M) (L : g_L) (x nm : Int32) {n e fa ac : Nat} {sz : Nat → Nat} {rr : Nat → Nat → Nat} {go : Nat → Bool} (hM : mI M n e fa ac sz rr go) : mt G yX11_start (Cond.code yX11_start cX11_start 4 (some .int)) 5 [.ref (G.1 + 149), .int x, .int nm] M L (qI fun v M' L' => L = L' ∧ ((getP (mplE M n) x = none ∧ v = -1 ∧ frM M M') ∨ ∃ e0, getP (mplE M n) x = some e0 ∧ ((inW nm 0 999 = false ∧ v = -2 ∧ frM M M') ∨ (inW nm 0 999 = true ∧ mbgP M e fa ac nm 4 (r4 (bl (mB M) n n) e0.1 e0.2) v M')))) := by
  refine mt_of (by decide) rfl (Nat.le_of_ble_eq_true rfl) [(0, .ref (G.1 + 149)), (1, .int x), (2, .int nm)] rfl (fun X hG C hQ => ?_)
  subst hG
  refine wx_aload_n C 0 dX11_start_0 rfl rfl ?_
  refine ca_X11_166 C (rest := []) (t_X11_findPairs X.1 M L hM) (by decide) rfl (by decide) rfl rfl (Nat.le_of_ble_eq_true rfl) dX11_start_1 (kI fun r1 M1 L1 q1 => ?_)
  obtain ⟨rfl, hfr, hP⟩ := q1
  refine wx_if_eq C 21 dX11_start_4 (by decide) (fun c4 => ?_) (fun c4 => ?_)
  · refine wx_iconst C (-1) dX11_start_21 (by decide) ?_
    refine wx_iret C hQ dX11_start_22 ?_
    refine ⟨_, rfl, rfl, Or.inl ⟨?_, rfl, hfr⟩⟩
    first
    | (rcases hP with ⟨h1, h2⟩ | ⟨h1, h2, h3⟩
       · unfold mplE
         rw [if_pos h1]
         unfold getP
         simp
       · exact absurd c4 (by rw [h2]; decide))
    | (rcases hP with ⟨h1, h2⟩ | ⟨h1, h2, h3⟩
       · exact absurd h2 c4
       · unfold mplE
         rw [if_neg (by omega)]
         have hin := bI_0.mp c18
         have hle := mPL_le M h1
         rw [h3.2.1, inW_p (by omega)] at hin
         exact getP_dn (by omega) hin)
  · refine wx_iload_n C 1 dX11_start_7 rfl rfl ?_
    refine wx_iconst C 0 dX11_start_8 (by decide) ?_
    refine wx_aload_n C 0 dX11_start_9 rfl rfl ?_
    refine gf_X11_160 C dX11_start_10 ?_
    refine wx_iconst C 1 dX11_start_13 (by decide) ?_
    refine wx_isub C dX11_start_14 ?_
    refine ca_X11_78 C (rest := []) (t_X11_isIn X.1 M1 L x 0 (M1 149 25 - 1)) (by decide) rfl rfl (Nat.le_of_ble_eq_true rfl) dX11_start_15 (kI fun r15 M15 L15 q15 => ?_)
    obtain ⟨rfl, rfl, rfl⟩ := q15
    refine wx_if_ne C 23 dX11_start_18 (by decide) (fun c18 => ?_) (fun c18 => ?_)
    · obtain ⟨h1, h3⟩ : (bl (mB M) n n).length ≤ 40 ∧ pfM M M1 (bl (mB M) n n) (mPL M n) := by
        rcases hP with ⟨h1, h2⟩ | ⟨h1, h2, h3⟩
        · exact absurd h2 c4
        · exact ⟨h1, h3⟩
      have hle := mPL_le M h1
      have hin := bI_n0.mp c18
      rw [h3.2.1, inW_p (by omega)] at hin
      obtain ⟨q, hq, rfl⟩ := dHas_t (by omega) hin
      have he0 := getD_some hq
      have eE : getP (mplE M n) (nI q) = some ((mPL M n).getD q (0, 0)) := by
        unfold mplE
        rw [if_neg (by omega), getP_n (by omega)]
        exact he0
      have hq2 := h3.2.2 q _ he0
      have hb1 := mPL_in he0
      generalize (mPL M n).getD q (0, 0) = e0 at he0 eE hq2 hb1
      have hBa := h3.1.2.2 e0.1 _ (getD_some hb1.1)
      have hBb := h3.1.2.2 e0.2 _ (getD_some hb1.2)
      have hr4 : ∀ j, r4 (bl (mB M) n n) e0.1 e0.2 j < 60 := r4_lt (fun e he => bl_mem (Nat.le_refl n) e he) hM.n60 hb1.1 hb1.2
      have hM1 := hM.fr hfr
      refine wx_iload_n C 2 dX11_start_23 rfl rfl ?_
      refine wx_iconst C 0 dX11_start_24 (by decide) ?_
      refine wx_sipush C 999 dX11_start_25 (by decide) ?_
      refine ca_X11_78 C (rest := []) (t_X11_isIn X.1 M1 L nm 0 999) (by decide) rfl rfl (Nat.le_of_ble_eq_true rfl) dX11_start_28 (kI fun r28 M28 L28 q28 => ?_)
      obtain ⟨rfl, rfl, rfl⟩ := q28
      refine wx_if_ne C 37 dX11_start_31 (by decide) (fun c31 => ?_) (fun c31 => ?_)
      · refine wx_aload_n C 0 dX11_start_37 rfl rfl ?_
        refine gf_X11_82 C dX11_start_38 ?_
        refine wx_bipush C 12 dX11_start_41 (by decide) ?_
        refine wx_icmp_ne C 49 dX11_start_43 (by decide) (fun c43 => ?_) (fun c43 => ?_)
        · have he12 : e < 12 := by
            have := hM.e12
            have : e ≠ 12 := fun z => c43 (by rw [hM1.he, z]; rfl)
            omega
          refine wx_aload_n C 0 dX11_start_49 rfl rfl ?_
          refine wx_iload_n C 2 dX11_start_50 rfl rfl ?_
          refine ca_X11_178 C (rest := []) (t_X11_begins X.1 M1 L nm hM1 he12) (by decide) rfl (by decide) rfl rfl (Nat.le_of_ble_eq_true rfl) dX11_start_51 (kI fun r51 M51 L51 q51 => ?_)
          obtain ⟨rfl, rfl, rfl⟩ := q51
          change wx X (cms (bgM (mKP M1 fa ac) e nm) e 0 (r4 (bl (mB M) n n) e0.1 e0.2) 0) L _ _ _
          refine wx_istore_n C [1, 2, 3, 0] [(0, .ref (X.1.1 + 149)), (1, .int (nI q)), (2, .int nm), (3, .int (nI e))] dX11_start_54 rfl (by decide) rfl ?_
          have ho68 : ∀ a b, 159 ≤ a → a ≤ 163 → (cms (bgM (mKP M1 fa ac) e nm) e 0 (r4 (bl (mB M) n n) e0.1 e0.2) 0) a b = M1 a b := fun a b z1 z2 => by rw [cms_o _ _ (by omega) (by omega) (by omega), bgM_o _ _ _ _ (by omega) (by omega) (by omega) (by omega), mKP_o _ _ _ _ (by omega) (by omega)]
          have hi68 : (cms (bgM (mKP M1 fa ac) e nm) e 0 (r4 (bl (mB M) n n) e0.1 e0.2) 0) 162 q = nI e0.1 := by rw [ho68 _ _ (by decide) (by decide)]; exact hq2.1
          have hv68 : (cms (bgM (mKP M1 fa ac) e nm) e 0 (r4 (bl (mB M) n n) e0.1 e0.2) 0) 160 e0.1 = nI ((r4 (bl (mB M) n n) e0.1 e0.2) 0) := by rw [ho68 _ _ (by decide) (by decide)]; exact hBa.1
          refine wx_aload_n C 0 dX11_start_55 rfl rfl ?_
          refine wx_iload_n C 3 dX11_start_56 rfl rfl ?_
          refine wx_aload_n C 0 dX11_start_57 rfl rfl ?_
          refine gf_X11_51 C dX11_start_58 ?_
          refine wx_aload_n C 0 dX11_start_61 rfl rfl ?_
          refine gf_X11_57 C dX11_start_62 ?_
          refine wx_iload_n C 1 dX11_start_65 rfl rfl ?_
          refine wx_iald C 162 q (by decide) (fun _ _ => rfl) (by decide) dX11_start_66 rfl (by omega) ?_
          refine wx_iald C 160 e0.1 (by decide) (fun _ _ => rfl) (by decide) dX11_start_67 hi68 (by omega) ?_
          refine ca_X11_181 C (rest := []) (t_X11_comes X.1 (cms (bgM (mKP M1 fa ac) e nm) e 0 (r4 (bl (mB M) n n) e0.1 e0.2) 0) L (p := e) (l := 0 + 0) (d := (r4 (bl (mB M) n n) e0.1 e0.2) 0) rfl he12 (cms_156 _ (bgM_156 _ _ _) 0) (by omega) (hv68) (hr4 _)) (by decide) rfl (by decide) rfl rfl (Nat.le_of_ble_eq_true rfl) dX11_start_68 (kV fun M68 L68 q68 => ?_)
          obtain ⟨rfl, rfl⟩ := q68
          change wx X (cms (bgM (mKP M1 fa ac) e nm) e 0 (r4 (bl (mB M) n n) e0.1 e0.2) 1) L _ _ _
          have ho84 : ∀ a b, 159 ≤ a → a ≤ 163 → (cms (bgM (mKP M1 fa ac) e nm) e 0 (r4 (bl (mB M) n n) e0.1 e0.2) 1) a b = M1 a b := fun a b z1 z2 => by rw [cms_o _ _ (by omega) (by omega) (by omega), bgM_o _ _ _ _ (by omega) (by omega) (by omega) (by omega), mKP_o _ _ _ _ (by omega) (by omega)]
          have hi84 : (cms (bgM (mKP M1 fa ac) e nm) e 0 (r4 (bl (mB M) n n) e0.1 e0.2) 1) 162 q = nI e0.1 := by rw [ho84 _ _ (by decide) (by decide)]; exact hq2.1
          have hv84 : (cms (bgM (mKP M1 fa ac) e nm) e 0 (r4 (bl (mB M) n n) e0.1 e0.2) 1) 161 e0.1 = nI ((r4 (bl (mB M) n n) e0.1 e0.2) 1) := by rw [ho84 _ _ (by decide) (by decide)]; exact hBa.2
          refine wx_aload_n C 0 dX11_start_71 rfl rfl ?_
          refine wx_iload_n C 3 dX11_start_72 rfl rfl ?_
          refine wx_aload_n C 0 dX11_start_73 rfl rfl ?_
          refine gf_X11_54 C dX11_start_74 ?_
          refine wx_aload_n C 0 dX11_start_77 rfl rfl ?_
          refine gf_X11_57 C dX11_start_78 ?_
          refine wx_iload_n C 1 dX11_start_81 rfl rfl ?_
          refine wx_iald C 162 q (by decide) (fun _ _ => rfl) (by decide) dX11_start_82 rfl (by omega) ?_
          refine wx_iald C 161 e0.1 (by decide) (fun _ _ => rfl) (by decide) dX11_start_83 hi84 (by omega) ?_
          refine ca_X11_181 C (rest := []) (t_X11_comes X.1 (cms (bgM (mKP M1 fa ac) e nm) e 0 (r4 (bl (mB M) n n) e0.1 e0.2) 1) L (p := e) (l := 0 + 1) (d := (r4 (bl (mB M) n n) e0.1 e0.2) 1) rfl he12 (cms_156 _ (bgM_156 _ _ _) 1) (by omega) (hv84) (hr4 _)) (by decide) rfl (by decide) rfl rfl (Nat.le_of_ble_eq_true rfl) dX11_start_84 (kV fun M84 L84 q84 => ?_)
          obtain ⟨rfl, rfl⟩ := q84
          change wx X (cms (bgM (mKP M1 fa ac) e nm) e 0 (r4 (bl (mB M) n n) e0.1 e0.2) 2) L _ _ _
          have ho100 : ∀ a b, 159 ≤ a → a ≤ 163 → (cms (bgM (mKP M1 fa ac) e nm) e 0 (r4 (bl (mB M) n n) e0.1 e0.2) 2) a b = M1 a b := fun a b z1 z2 => by rw [cms_o _ _ (by omega) (by omega) (by omega), bgM_o _ _ _ _ (by omega) (by omega) (by omega) (by omega), mKP_o _ _ _ _ (by omega) (by omega)]
          have hi100 : (cms (bgM (mKP M1 fa ac) e nm) e 0 (r4 (bl (mB M) n n) e0.1 e0.2) 2) 163 q = nI e0.2 := by rw [ho100 _ _ (by decide) (by decide)]; exact hq2.2
          have hv100 : (cms (bgM (mKP M1 fa ac) e nm) e 0 (r4 (bl (mB M) n n) e0.1 e0.2) 2) 160 e0.2 = nI ((r4 (bl (mB M) n n) e0.1 e0.2) 2) := by rw [ho100 _ _ (by decide) (by decide)]; exact hBb.1
          refine wx_aload_n C 0 dX11_start_87 rfl rfl ?_
          refine wx_iload_n C 3 dX11_start_88 rfl rfl ?_
          refine wx_aload_n C 0 dX11_start_89 rfl rfl ?_
          refine gf_X11_51 C dX11_start_90 ?_
          refine wx_aload_n C 0 dX11_start_93 rfl rfl ?_
          refine gf_X11_60 C dX11_start_94 ?_
          refine wx_iload_n C 1 dX11_start_97 rfl rfl ?_
          refine wx_iald C 163 q (by decide) (fun _ _ => rfl) (by decide) dX11_start_98 rfl (by omega) ?_
          refine wx_iald C 160 e0.2 (by decide) (fun _ _ => rfl) (by decide) dX11_start_99 hi100 (by omega) ?_
          refine ca_X11_181 C (rest := []) (t_X11_comes X.1 (cms (bgM (mKP M1 fa ac) e nm) e 0 (r4 (bl (mB M) n n) e0.1 e0.2) 2) L (p := e) (l := 0 + 2) (d := (r4 (bl (mB M) n n) e0.1 e0.2) 2) rfl he12 (cms_156 _ (bgM_156 _ _ _) 2) (by omega) (hv100) (hr4 _)) (by decide) rfl (by decide) rfl rfl (Nat.le_of_ble_eq_true rfl) dX11_start_100 (kV fun M100 L100 q100 => ?_)
          obtain ⟨rfl, rfl⟩ := q100
          change wx X (cms (bgM (mKP M1 fa ac) e nm) e 0 (r4 (bl (mB M) n n) e0.1 e0.2) 3) L _ _ _
          have ho116 : ∀ a b, 159 ≤ a → a ≤ 163 → (cms (bgM (mKP M1 fa ac) e nm) e 0 (r4 (bl (mB M) n n) e0.1 e0.2) 3) a b = M1 a b := fun a b z1 z2 => by rw [cms_o _ _ (by omega) (by omega) (by omega), bgM_o _ _ _ _ (by omega) (by omega) (by omega) (by omega), mKP_o _ _ _ _ (by omega) (by omega)]
          have hi116 : (cms (bgM (mKP M1 fa ac) e nm) e 0 (r4 (bl (mB M) n n) e0.1 e0.2) 3) 163 q = nI e0.2 := by rw [ho116 _ _ (by decide) (by decide)]; exact hq2.2
          have hv116 : (cms (bgM (mKP M1 fa ac) e nm) e 0 (r4 (bl (mB M) n n) e0.1 e0.2) 3) 161 e0.2 = nI ((r4 (bl (mB M) n n) e0.1 e0.2) 3) := by rw [ho116 _ _ (by decide) (by decide)]; exact hBb.2
          refine wx_aload_n C 0 dX11_start_103 rfl rfl ?_
          refine wx_iload_n C 3 dX11_start_104 rfl rfl ?_
          refine wx_aload_n C 0 dX11_start_105 rfl rfl ?_
          refine gf_X11_54 C dX11_start_106 ?_
          refine wx_aload_n C 0 dX11_start_109 rfl rfl ?_
          refine gf_X11_60 C dX11_start_110 ?_
          refine wx_iload_n C 1 dX11_start_113 rfl rfl ?_
          refine wx_iald C 163 q (by decide) (fun _ _ => rfl) (by decide) dX11_start_114 rfl (by omega) ?_
          refine wx_iald C 161 e0.2 (by decide) (fun _ _ => rfl) (by decide) dX11_start_115 hi116 (by omega) ?_
          refine ca_X11_181 C (rest := []) (t_X11_comes X.1 (cms (bgM (mKP M1 fa ac) e nm) e 0 (r4 (bl (mB M) n n) e0.1 e0.2) 3) L (p := e) (l := 0 + 3) (d := (r4 (bl (mB M) n n) e0.1 e0.2) 3) rfl he12 (cms_156 _ (bgM_156 _ _ _) 3) (by omega) (hv116) (hr4 _)) (by decide) rfl (by decide) rfl rfl (Nat.le_of_ble_eq_true rfl) dX11_start_116 (kV fun M116 L116 q116 => ?_)
          obtain ⟨rfl, rfl⟩ := q116
          change wx X (cms (bgM (mKP M1 fa ac) e nm) e 0 (r4 (bl (mB M) n n) e0.1 e0.2) 4) L _ _ _
          refine wx_iload_n C 3 dX11_start_119 rfl rfl ?_
          refine wx_iret C hQ dX11_start_120 ?_
          exact ⟨_, rfl, rfl, Or.inr ⟨e0, eE, Or.inr ⟨bI_n0.mp c31, Or.inr ⟨he12, rfl, M1, hfr, rfl⟩⟩⟩⟩
        · refine wx_bipush C (-4) dX11_start_46 (by decide) ?_
          refine wx_iret C hQ dX11_start_48 ?_
          exact ⟨_, rfl, rfl, Or.inr ⟨e0, eE, Or.inr ⟨bI_n0.mp c31, Or.inl ⟨nI_inj (by have := hM.e12; omega) (by decide) (hM1.he.symm.trans c43), rfl, hfr⟩⟩⟩⟩
      · refine wx_bipush C (-2) dX11_start_34 (by decide) ?_
        refine wx_iret C hQ dX11_start_36 ?_
        exact ⟨_, rfl, rfl, Or.inr ⟨e0, eE, Or.inl ⟨bI_0.mp c31, rfl, hfr⟩⟩⟩
    · refine wx_iconst C (-1) dX11_start_21 (by decide) ?_
      refine wx_iret C hQ dX11_start_22 ?_
      refine ⟨_, rfl, rfl, Or.inl ⟨?_, rfl, hfr⟩⟩
      first
      | (rcases hP with ⟨h1, h2⟩ | ⟨h1, h2, h3⟩
         · unfold mplE
           rw [if_pos h1]
           unfold getP
           simp
         · exact absurd c4 (by rw [h2]; decide))
      | (rcases hP with ⟨h1, h2⟩ | ⟨h1, h2, h3⟩
         · exact absurd h2 c4
         · unfold mplE
           rw [if_neg (by omega)]
           have hin := bI_0.mp c18
           have hle := mPL_le M h1
           rw [h3.2.1, inW_p (by omega)] at hin
           exact getP_dn (by omega) hin)
def kn1 (M : g_M) (d : Nat) : g_M := g_st (g_st (g_st M 149 15 0) 159 0 (nI d)) 149 15 (nI 1)
theorem frM_kn1 (M : g_M) (d : Nat) : frM M (kn1 M d) := fun x y h1 h2 => by
  unfold kn1
  rw [g_st_ap, if_neg (by omega), g_st_ap, if_neg (by omega), g_st_ap, if_neg (by omega)]
theorem kn1_sok (M : g_M) {d : Nat} (hd : d < 60) : sok (kn1 M d) 1 (fun _ => d) := by
  refine ⟨by unfold kn1; rw [g_st_ap, if_pos ⟨rfl, rfl⟩], by decide, fun i hi => ⟨?_, hd⟩⟩
  rw [show i = 0 by omega]
  unfold kn1
  rw [g_st_ap, if_neg (by omega), g_st_ap, if_pos ⟨rfl, rfl⟩]
theorem frM.hh {M N : g_M} (h : frM M N) {e : Nat} {x : Int32} : mHas N e x = mHas M e x := by
  unfold mHas
  rw [h.o 158 (by decide) (by decide)]
set_option maxHeartbeats 4000000 in
set_option maxRecDepth 100000 in
theorem t_X11_single (G : g_G) (M : g_M) (L : g_L) (y nm : Int32) {n e fa ac : Nat} {sz : Nat → Nat} {rr : Nat → Nat → Nat} {go : Nat → Bool} (hM : mI M n e fa ac sz rr go) : mt G yX11_single (Cond.code yX11_single cX11_single 4 (some .int)) 4 [.ref (G.1 + 149), .int y, .int nm] M L (qI fun v M' L' => L = L' ∧ ((dHas n y = false ∧ v = -1 ∧ frM M M') ∨ ∃ d, d < n ∧ y = nI d ∧ ((inW nm 0 999 = false ∧ v = -2 ∧ frM M M') ∨ (inW nm 0 999 = true ∧ (((¬ M 154 d = -1 ∨ msnd M (fun _ => d) 1 = false) ∧ v = -3 ∧ frM M M') ∨ (M 154 d = -1 ∧ msnd M (fun _ => d) 1 = true ∧ mbgP M e fa ac nm 1 (fun _ => d) v M')))))) := by
  refine mt_of (by decide) rfl (Nat.le_of_ble_eq_true rfl) [(0, .ref (G.1 + 149)), (1, .int y), (2, .int nm)] rfl (fun X hG C hQ => ?_)
  subst hG
  refine wx_aload_n C 0 dX11_single_0 rfl rfl ?_
  refine wx_iload_n C 1 dX11_single_1 rfl rfl ?_
  refine ca_X11_88 C (rest := []) (t_X11_isDot X.1 M L y hM.hn hM.n60) (by decide) rfl (by decide) rfl rfl (Nat.le_of_ble_eq_true rfl) dX11_single_2 (kI fun r2 M2 L2 q2 => ?_)
  obtain ⟨rfl, rfl, rfl⟩ := q2
  refine wx_if_ne C 10 dX11_single_5 (by decide) (fun c5 => ?_) (fun c5 => ?_)
  · have hin := bI_n0.mp c5
    obtain ⟨d, hd, rfl⟩ := dHas_t (by have := hM.n60; omega) hin
    have hd60 : d < 60 := by have := hM.n60; omega
    refine wx_iload_n C 2 dX11_single_10 rfl rfl ?_
    refine wx_iconst C 0 dX11_single_11 (by decide) ?_
    refine wx_sipush C 999 dX11_single_12 (by decide) ?_
    refine ca_X11_78 C (rest := []) (t_X11_isIn X.1 M L nm 0 999) (by decide) rfl rfl (Nat.le_of_ble_eq_true rfl) dX11_single_15 (kI fun r15 M15 L15 q15 => ?_)
    obtain ⟨rfl, rfl, rfl⟩ := q15
    refine wx_if_ne C 24 dX11_single_18 (by decide) (fun c18 => ?_) (fun c18 => ?_)
    · refine wx_aload_n C 0 dX11_single_24 rfl rfl ?_
      refine wx_iconst C 0 dX11_single_25 (by decide) ?_
      refine pf_X11_96 C dX11_single_26 ?_
      refine wx_aload_n C 0 dX11_single_29 rfl rfl ?_
      refine wx_iload_n C 1 dX11_single_30 rfl rfl ?_
      refine ca_X11_163 C (rest := []) (t_X11_adds X.1 (g_st M 149 15 0) L (l := 0) (by rw [g_st_ap, if_pos ⟨rfl, rfl⟩]; rfl) (by decide) (nI d)) (by decide) rfl (by decide) rfl rfl (Nat.le_of_ble_eq_true rfl) dX11_single_31 (kV fun M31 L31 q31 => ?_)
      obtain ⟨rfl, rfl⟩ := q31
      change wx X (kn1 M d) L _ _ _
      have fr := frM_kn1 M d
      have e154 : kn1 M d 154 d = M 154 d := fr 154 d (by omega) (by omega)
      refine wx_aload_n C 0 dX11_single_34 rfl rfl ?_
      refine gf_X11_32 C dX11_single_35 ?_
      refine wx_iload_n C 1 dX11_single_38 rfl rfl ?_
      refine wx_iald C 154 d (by decide) (fun _ _ => rfl) (by decide) dX11_single_39 rfl hd60 ?_
      refine wx_iconst C (-1) dX11_single_40 (by decide) ?_
      refine wx_icmp_ne C 51 dX11_single_41 (by decide) (fun c41 => ?_) (fun c41 => ?_)
      · refine wx_bipush C (-3) dX11_single_51 (by decide) ?_
        refine wx_iret C hQ dX11_single_53 ?_
        exact ⟨_, rfl, rfl, Or.inr ⟨d, hd, rfl, Or.inr ⟨bI_n0.mp c18, Or.inl ⟨Or.inl (by rw [← e154]; exact c41), rfl, fr⟩⟩⟩⟩
      · refine wx_aload_n C 0 dX11_single_44 rfl rfl ?_
        refine ca_X11_131 C (rest := []) (t_heap X.1 (kn1 M d) L (kn1_sok M hd60) (fr.g hM.g)) (by decide) rfl (by decide) rfl rfl (Nat.le_of_ble_eq_true rfl) dX11_single_45 (kI fun r45 M45 L45 q45 => ?_)
        obtain ⟨rfl, rfl, a45, b45, rfl⟩ := q45
        rw [fr.eS]
        have fr2 := fr.trans (frM_mn (kn1 M d) a45 b45)
        have hM2 := hM.fr fr2
        refine wx_if_ne C 54 dX11_single_48 (by decide) (fun c48 => ?_) (fun c48 => ?_)
        · refine wx_aload_n C 0 dX11_single_54 rfl rfl ?_
          refine gf_X11_82 C dX11_single_55 ?_
          refine wx_bipush C 12 dX11_single_58 (by decide) ?_
          refine wx_icmp_ne C 66 dX11_single_60 (by decide) (fun c60 => ?_) (fun c60 => ?_)
          · have he12 : e < 12 := by
              have := hM.e12
              have : e ≠ 12 := fun z => c60 (by rw [hM2.he, z]; rfl)
              omega
            refine wx_aload_n C 0 dX11_single_66 rfl rfl ?_
            refine wx_iload_n C 2 dX11_single_67 rfl rfl ?_
            refine ca_X11_178 C (rest := []) (t_X11_begins X.1 (mn (kn1 M d) a45 b45) L nm hM2 he12) (by decide) rfl (by decide) rfl rfl (Nat.le_of_ble_eq_true rfl) dX11_single_68 (kI fun r68 M68 L68 q68 => ?_)
            obtain ⟨rfl, rfl, rfl⟩ := q68
            change wx X (cms (bgM (mKP (mn (kn1 M d) a45 b45) fa ac) e nm) e 0 (fun _ => d) 0) L _ _ _
            refine wx_istore_n C [1, 2, 3, 0] [(0, .ref (X.1.1 + 149)), (1, .int (nI d)), (2, .int nm), (3, .int (nI e))] dX11_single_71 rfl (by decide) rfl ?_
            refine wx_aload_n C 0 dX11_single_72 rfl rfl ?_
            refine wx_iload_n C 3 dX11_single_73 rfl rfl ?_
            refine wx_iload_n C 1 dX11_single_74 rfl rfl ?_
            refine ca_X11_181 C (rest := []) (t_X11_comes X.1 (cms (bgM (mKP (mn (kn1 M d) a45 b45) fa ac) e nm) e 0 (fun _ => d) 0) L (p := e) (l := 0 + 0) (d := d) rfl he12 (cms_156 _ (bgM_156 _ _ _) 0) (by omega) rfl hd60) (by decide) rfl (by decide) rfl rfl (Nat.le_of_ble_eq_true rfl) dX11_single_75 (kV fun M75 L75 q75 => ?_)
            obtain ⟨rfl, rfl⟩ := q75
            change wx X (cms (bgM (mKP (mn (kn1 M d) a45 b45) fa ac) e nm) e 0 (fun _ => d) 1) L _ _ _
            refine wx_iload_n C 3 dX11_single_78 rfl rfl ?_
            refine wx_iret C hQ dX11_single_79 ?_
            exact ⟨_, rfl, rfl, Or.inr ⟨d, hd, rfl, Or.inr ⟨bI_n0.mp c18, Or.inr ⟨by rw [← e154]; exact c41, bI_n0.mp c48, Or.inr ⟨he12, rfl, _, fr2, rfl⟩⟩⟩⟩⟩
          · refine wx_bipush C (-4) dX11_single_63 (by decide) ?_
            refine wx_iret C hQ dX11_single_65 ?_
            exact ⟨_, rfl, rfl, Or.inr ⟨d, hd, rfl, Or.inr ⟨bI_n0.mp c18, Or.inr ⟨by rw [← e154]; exact c41, bI_n0.mp c48, Or.inl ⟨nI_inj (by have := hM.e12; omega) (by decide) (hM2.he.symm.trans c60), rfl, fr2⟩⟩⟩⟩⟩
        · refine wx_bipush C (-3) dX11_single_51 (by decide) ?_
          refine wx_iret C hQ dX11_single_53 ?_
          exact ⟨_, rfl, rfl, Or.inr ⟨d, hd, rfl, Or.inr ⟨bI_n0.mp c18, Or.inl ⟨Or.inr (bI_0.mp c48), rfl, fr2⟩⟩⟩⟩
    · refine wx_bipush C (-2) dX11_single_21 (by decide) ?_
      refine wx_iret C hQ dX11_single_23 ?_
      exact ⟨_, rfl, rfl, Or.inr ⟨d, hd, rfl, Or.inl ⟨bI_0.mp c18, rfl, frM.rf M⟩⟩⟩
  · refine wx_iconst C (-1) dX11_single_8 (by decide) ?_
    refine wx_iret C hQ dX11_single_9 ?_
    exact ⟨_, rfl, rfl, Or.inl ⟨bI_0.mp c5, rfl, frM.rf M⟩⟩
set_option maxHeartbeats 4000000 in
set_option maxRecDepth 100000 in
theorem t_X11_force (G : g_G) (M : g_M) (L : g_L) (x y : Int32) {n e fa ac : Nat} {sz : Nat → Nat} {rr : Nat → Nat → Nat} {go : Nat → Bool} (hM : mI M n e fa ac sz rr go) : mt G yX11_force (Cond.code yX11_force cX11_force 3 (some .int)) 3 [.ref (G.1 + 149), .int x, .int y] M L (qI fun v M' L' => L = L' ∧ (((mHas M e x = false ∨ dHas n y = false) ∧ v = -1 ∧ frM M M') ∨ ∃ p d, p < e ∧ x = nI p ∧ M 158 p = 0 ∧ d < n ∧ y = nI d ∧ ((¬ M 154 d = -1 ∧ v = -3 ∧ frM M M') ∨ (M 154 d = -1 ∧ mjnP M fa ac p (sz p) 1 (fun _ => d) v M')))) := by
  refine mt_of (by decide) rfl (Nat.le_of_ble_eq_true rfl) [(0, .ref (G.1 + 149)), (1, .int x), (2, .int y)] rfl (fun X hG C hQ => ?_)
  subst hG
  refine wx_aload_n C 0 dX11_force_0 rfl rfl ?_
  refine wx_iload_n C 1 dX11_force_1 rfl rfl ?_
  refine ca_X11_185 C (rest := []) (t_X11_isPath X.1 M L x hM.he hM.e12) (by decide) rfl (by decide) rfl rfl (Nat.le_of_ble_eq_true rfl) dX11_force_2 (kI fun r2 M2 L2 q2 => ?_)
  obtain ⟨rfl, rfl, rfl⟩ := q2
  refine wx_if_eq C 16 dX11_force_5 (by decide) (fun c5 => ?_) (fun c5 => ?_)
  · refine wx_iconst C (-1) dX11_force_16 (by decide) ?_
    refine wx_iret C hQ dX11_force_17 ?_
    refine ⟨_, rfl, rfl, Or.inl ⟨?_, rfl, frM.rf M⟩⟩
    first
    | exact Or.inl (bI_0.mp c5)
    | exact Or.inr (bI_0.mp c13)
  · obtain ⟨p, hp, rfl, hg0⟩ := mHas_t hM.e12 (bI_n0.mp c5)
    have hp12 : p < 12 := by have := hM.e12; omega
    have hr := hM.r hp12
    refine wx_aload_n C 0 dX11_force_8 rfl rfl ?_
    refine wx_iload_n C 2 dX11_force_9 rfl rfl ?_
    refine ca_X11_88 C (rest := []) (t_X11_isDot X.1 M L y hM.hn hM.n60) (by decide) rfl (by decide) rfl rfl (Nat.le_of_ble_eq_true rfl) dX11_force_10 (kI fun r10 M10 L10 q10 => ?_)
    obtain ⟨rfl, rfl, rfl⟩ := q10
    refine wx_if_ne C 18 dX11_force_13 (by decide) (fun c13 => ?_) (fun c13 => ?_)
    · have hin := bI_n0.mp c13
      obtain ⟨d, hd, rfl⟩ := dHas_t (by have := hM.n60; omega) hin
      have hd60 : d < 60 := by have := hM.n60; omega
      refine wx_aload_n C 0 dX11_force_18 rfl rfl ?_
      refine gf_X11_32 C dX11_force_19 ?_
      refine wx_iload_n C 2 dX11_force_22 rfl rfl ?_
      refine wx_iald C 154 d (by decide) (fun _ _ => rfl) (by decide) dX11_force_23 rfl hd60 ?_
      refine wx_iconst C (-1) dX11_force_24 (by decide) ?_
      refine wx_icmp_eq C 31 dX11_force_25 (by decide) (fun c25 => ?_) (fun c25 => ?_)
      · refine wx_aload_n C 0 dX11_force_31 rfl rfl ?_
        refine gf_X11_38 C dX11_force_32 ?_
        refine wx_iload_n C 1 dX11_force_35 rfl rfl ?_
        refine wx_iald C 156 p (by decide) (fun _ _ => rfl) (by decide) dX11_force_36 rfl hp12 ?_
        refine wx_bipush C 8 dX11_force_37 (by decide) ?_
        refine wx_icmp_ne C 45 dX11_force_39 (by decide) (fun c39 => ?_) (fun c39 => ?_)
        · have h8 : sz p < 8 := by
            have := hr.2.1
            have : sz p ≠ 8 := fun z => c39 (by rw [hr.1, z]; rfl)
            omega
          refine wx_aload_n C 0 dX11_force_45 rfl rfl ?_
          refine ca_X11_175 C (rest := []) (t_X11_keep X.1 M L hM.hfa hM.fa30 hM.hac hM.ac30 (fun p => hM.hgo)) (by decide) rfl (by decide) rfl rfl (Nat.le_of_ble_eq_true rfl) dX11_force_46 (kV fun M46 L46 q46 => ?_)
          obtain ⟨rfl, rfl⟩ := q46
          change wx X (cms (mKP M fa ac) p (sz p) (fun _ => d) 0) L _ _ _
          have h156 : mKP M fa ac 156 p = nI (sz p) := by rw [mKP_o _ _ _ _ (by decide) (by decide)]; exact (hM.r hp12).1
          refine wx_aload_n C 0 dX11_force_49 rfl rfl ?_
          refine wx_iload_n C 1 dX11_force_50 rfl rfl ?_
          refine wx_iload_n C 2 dX11_force_51 rfl rfl ?_
          refine ca_X11_181 C (rest := []) (t_X11_comes X.1 (cms (mKP M fa ac) p (sz p) (fun _ => d) 0) L (p := p) (l := sz p + 0) (d := d) rfl hp12 (cms_156 _ h156 0) (by omega) rfl (by omega)) (by decide) rfl (by decide) rfl rfl (Nat.le_of_ble_eq_true rfl) dX11_force_52 (kV fun M52 L52 q52 => ?_)
          obtain ⟨rfl, rfl⟩ := q52
          change wx X (cms (mKP M fa ac) p (sz p) (fun _ => d) 1) L _ _ _
          refine wx_aload_n C 0 dX11_force_55 rfl rfl ?_
          refine gf_X11_38 C dX11_force_56 ?_
          refine wx_iload_n C 1 dX11_force_59 rfl rfl ?_
          refine wx_iald C 156 p (by decide) (fun _ _ => rfl) (by decide) dX11_force_60 rfl hp12 ?_
          refine wx_iret C hQ dX11_force_61 ?_
          exact ⟨_, rfl, rfl, Or.inr ⟨p, d, hp, rfl, hg0, hd, rfl, Or.inr ⟨c25, Or.inr ⟨by omega, cms_156 _ h156 1, M, frM.rf M, rfl⟩⟩⟩⟩
        · refine wx_bipush C (-4) dX11_force_42 (by decide) ?_
          refine wx_iret C hQ dX11_force_44 ?_
          exact ⟨_, rfl, rfl, Or.inr ⟨p, d, hp, rfl, hg0, hd, rfl, Or.inr ⟨c25, Or.inl ⟨by rw [nI_inj (a := sz p) (b := 8) (by have := hr.2.1; omega) (by decide) (hr.1.symm.trans c39)]; decide, rfl, frM.rf M⟩⟩⟩⟩
      · refine wx_bipush C (-3) dX11_force_28 (by decide) ?_
        refine wx_iret C hQ dX11_force_30 ?_
        exact ⟨_, rfl, rfl, Or.inr ⟨p, d, hp, rfl, hg0, hd, rfl, Or.inl ⟨c25, rfl, frM.rf M⟩⟩⟩
    · refine wx_iconst C (-1) dX11_force_16 (by decide) ?_
      refine wx_iret C hQ dX11_force_17 ?_
      refine ⟨_, rfl, rfl, Or.inl ⟨?_, rfl, frM.rf M⟩⟩
      first
      | exact Or.inl (bI_0.mp c5)
      | exact Or.inr (bI_0.mp c13)
def tkp (M : g_M) (p l : Nat) : g_M := tk M l (fun b => M 157 (8 * p + b)) l
def tka (M : g_M) (p l : Nat) (x : Int32) : g_M := g_st (g_st (tkp M p l) 159 l x) 149 15 (nI (l + 1))
theorem tka_fr (M : g_M) (p l : Nat) (x : Int32) : frM M (tka M p l x) := (frM_tk M l _ l).trans (frM_ad _ _ _ _)
theorem sok_add {M : g_M} {l : Nat} {r : Nat → Nat} (h : sok M l r) (h16 : l < 16) {d : Nat} (hd : d < 60) : sok (g_st (g_st M 159 l (nI d)) 149 15 (nI (l + 1))) (l + 1) (rad r l d) := by
  refine ⟨by rw [g_st_ap, if_pos ⟨rfl, rfl⟩], by omega, fun i hi => ?_⟩
  rw [g_st_ap, if_neg (by omega), g_st_ap]
  unfold rad
  by_cases hl : i = l
  · rw [if_pos ⟨rfl, hl⟩, if_neg (by omega)]
    exact ⟨rfl, hd⟩
  · rw [if_neg (fun z => hl z.2), if_pos (by omega)]
    exact h.2.2 i (by omega)
def tkb (M : g_M) (p l : Nat) (x y : Int32) : g_M := g_st (g_st (tka M p l x) 159 (l + 1) y) 149 15 (nI (l + 1 + 1))
theorem tkb_fr (M : g_M) (p l : Nat) (x y : Int32) : frM M (tkb M p l x y) := (tka_fr M p l x).trans (frM_ad _ _ _ _)
set_option maxHeartbeats 4000000 in
set_option maxRecDepth 100000 in
theorem t_X11_join (G : g_G) (M : g_M) (L : g_L) (x y : Int32) {n e fa ac : Nat} {sz : Nat → Nat} {rr : Nat → Nat → Nat} {go : Nat → Bool} (hM : mI M n e fa ac sz rr go) : mt G yX11_join (Cond.code yX11_join cX11_join 3 (some .int)) 4 [.ref (G.1 + 149), .int x, .int y] M L (qI fun v M' L' => L = L' ∧ (((mHas M e x = false ∨ dHas n y = false) ∧ v = -1 ∧ frM M M') ∨ ∃ p d, p < e ∧ x = nI p ∧ M 158 p = 0 ∧ d < n ∧ y = nI d ∧ ((¬ M 154 d = -1 ∧ v = -3 ∧ frM M M') ∨ (M 154 d = -1 ∧ ((msnd M (rad (rr p) (sz p) d) (sz p + 1) = false ∧ v = -3 ∧ frM M M') ∨ (msnd M (rad (rr p) (sz p) d) (sz p + 1) = true ∧ mjnP M fa ac p (sz p) 1 (fun _ => d) v M')))))) := by
  refine mt_of (by decide) rfl (Nat.le_of_ble_eq_true rfl) [(0, .ref (G.1 + 149)), (1, .int x), (2, .int y)] rfl (fun X hG C hQ => ?_)
  subst hG
  refine wx_aload_n C 0 dX11_join_0 rfl rfl ?_
  refine wx_iload_n C 1 dX11_join_1 rfl rfl ?_
  refine ca_X11_185 C (rest := []) (t_X11_isPath X.1 M L x hM.he hM.e12) (by decide) rfl (by decide) rfl rfl (Nat.le_of_ble_eq_true rfl) dX11_join_2 (kI fun r2 M2 L2 q2 => ?_)
  obtain ⟨rfl, rfl, rfl⟩ := q2
  refine wx_if_eq C 16 dX11_join_5 (by decide) (fun c5 => ?_) (fun c5 => ?_)
  · refine wx_iconst C (-1) dX11_join_16 (by decide) ?_
    refine wx_iret C hQ dX11_join_17 ?_
    refine ⟨_, rfl, rfl, Or.inl ⟨?_, rfl, frM.rf M⟩⟩
    first
    | exact Or.inl (bI_0.mp c5)
    | exact Or.inr (bI_0.mp c13)
  · obtain ⟨p, hp, rfl, hg0⟩ := mHas_t hM.e12 (bI_n0.mp c5)
    have hp12 : p < 12 := by have := hM.e12; omega
    have hr := hM.r hp12
    refine wx_aload_n C 0 dX11_join_8 rfl rfl ?_
    refine wx_iload_n C 2 dX11_join_9 rfl rfl ?_
    refine ca_X11_88 C (rest := []) (t_X11_isDot X.1 M L y hM.hn hM.n60) (by decide) rfl (by decide) rfl rfl (Nat.le_of_ble_eq_true rfl) dX11_join_10 (kI fun r10 M10 L10 q10 => ?_)
    obtain ⟨rfl, rfl, rfl⟩ := q10
    refine wx_if_ne C 18 dX11_join_13 (by decide) (fun c13 => ?_) (fun c13 => ?_)
    · have hin := bI_n0.mp c13
      obtain ⟨d, hd, rfl⟩ := dHas_t (by have := hM.n60; omega) hin
      have hd60 : d < 60 := by have := hM.n60; omega
      refine wx_aload_n C 0 dX11_join_18 rfl rfl ?_
      refine gf_X11_32 C dX11_join_19 ?_
      refine wx_iload_n C 2 dX11_join_22 rfl rfl ?_
      refine wx_iald C 154 d (by decide) (fun _ _ => rfl) (by decide) dX11_join_23 rfl hd60 ?_
      refine wx_iconst C (-1) dX11_join_24 (by decide) ?_
      refine wx_icmp_eq C 31 dX11_join_25 (by decide) (fun c25 => ?_) (fun c25 => ?_)
      · refine wx_aload_n C 0 dX11_join_31 rfl rfl ?_
        refine wx_iload_n C 1 dX11_join_32 rfl rfl ?_
        refine ca_X11_127 C (rest := []) (t_X11_take X.1 M L rfl hp12 hr.1 hr.2.1) (by decide) rfl (by decide) rfl rfl (Nat.le_of_ble_eq_true rfl) dX11_join_33 (kV fun M33 L33 q33 => ?_)
        obtain ⟨rfl, rfl⟩ := q33
        change wx X (tkp M p (sz p)) L _ _ _
        have h8a := hr.2.1
        refine wx_aload_n C 0 dX11_join_36 rfl rfl ?_
        refine wx_iload_n C 2 dX11_join_37 rfl rfl ?_
        refine ca_X11_163 C (rest := []) (t_X11_adds X.1 (tkp M p (sz p)) L (tk_c _ _ _ _) (by omega) (nI d)) (by decide) rfl (by decide) rfl rfl (Nat.le_of_ble_eq_true rfl) dX11_join_38 (kV fun M38 L38 q38 => ?_)
        obtain ⟨rfl, rfl⟩ := q38
        change wx X (tka M p (sz p) (nI d)) L _ _ _
        have fr := tka_fr M p (sz p) (nI d)
        refine wx_aload_n C 0 dX11_join_41 rfl rfl ?_
        refine ca_X11_131 C (rest := []) (t_heap X.1 (tka M p (sz p) (nI d)) L (sok_add (tk_sok hr) (by omega) hd60) (fr.g hM.g)) (by decide) rfl (by decide) rfl rfl (Nat.le_of_ble_eq_true rfl) dX11_join_42 (kI fun r42 M42 L42 q42 => ?_)
        obtain ⟨rfl, rfl, a42, b42, rfl⟩ := q42
        rw [fr.eS]
        have fr2 := fr.trans (frM_mn (tka M p (sz p) (nI d)) a42 b42)
        have hM2 := hM.fr fr2
        generalize mn (tka M p (sz p) (nI d)) a42 b42 = M2 at fr2 hM2 ⊢
        have hr2 := hM2.r hp12
        refine wx_if_ne C 51 dX11_join_45 (by decide) (fun c45 => ?_) (fun c45 => ?_)
        · refine wx_aload_n C 0 dX11_join_51 rfl rfl ?_
          refine gf_X11_38 C dX11_join_52 ?_
          refine wx_iload_n C 1 dX11_join_55 rfl rfl ?_
          refine wx_iald C 156 p (by decide) (fun _ _ => rfl) (by decide) dX11_join_56 rfl hp12 ?_
          refine wx_bipush C 8 dX11_join_57 (by decide) ?_
          refine wx_icmp_ne C 65 dX11_join_59 (by decide) (fun c59 => ?_) (fun c59 => ?_)
          · have h8 : sz p < 8 := by
              have : sz p ≠ 8 := fun z => c59 (by rw [hr2.1, z]; rfl)
              omega
            refine wx_aload_n C 0 dX11_join_65 rfl rfl ?_
            refine ca_X11_175 C (rest := []) (t_X11_keep X.1 M2 L hM2.hfa hM2.fa30 hM2.hac hM2.ac30 (fun p => hM2.hgo)) (by decide) rfl (by decide) rfl rfl (Nat.le_of_ble_eq_true rfl) dX11_join_66 (kV fun M66 L66 q66 => ?_)
            obtain ⟨rfl, rfl⟩ := q66
            change wx X (cms (mKP M2 fa ac) p (sz p) (fun _ => d) 0) L _ _ _
            have h156 : mKP M2 fa ac 156 p = nI (sz p) := by rw [mKP_o _ _ _ _ (by decide) (by decide)]; exact (hM2.r hp12).1
            refine wx_aload_n C 0 dX11_join_69 rfl rfl ?_
            refine wx_iload_n C 1 dX11_join_70 rfl rfl ?_
            refine wx_iload_n C 2 dX11_join_71 rfl rfl ?_
            refine ca_X11_181 C (rest := []) (t_X11_comes X.1 (cms (mKP M2 fa ac) p (sz p) (fun _ => d) 0) L (p := p) (l := sz p + 0) (d := d) rfl hp12 (cms_156 _ h156 0) (by omega) rfl (by omega)) (by decide) rfl (by decide) rfl rfl (Nat.le_of_ble_eq_true rfl) dX11_join_72 (kV fun M72 L72 q72 => ?_)
            obtain ⟨rfl, rfl⟩ := q72
            change wx X (cms (mKP M2 fa ac) p (sz p) (fun _ => d) 1) L _ _ _
            refine wx_aload_n C 0 dX11_join_75 rfl rfl ?_
            refine gf_X11_38 C dX11_join_76 ?_
            refine wx_iload_n C 1 dX11_join_79 rfl rfl ?_
            refine wx_iald C 156 p (by decide) (fun _ _ => rfl) (by decide) dX11_join_80 rfl hp12 ?_
            refine wx_iret C hQ dX11_join_81 ?_
            exact ⟨_, rfl, rfl, Or.inr ⟨p, d, hp, rfl, hg0, hd, rfl, Or.inr ⟨c25, Or.inr ⟨bI_n0.mp c45, Or.inr ⟨by omega, cms_156 _ h156 1, M2, fr2, rfl⟩⟩⟩⟩⟩
          · refine wx_bipush C (-4) dX11_join_62 (by decide) ?_
            refine wx_iret C hQ dX11_join_64 ?_
            exact ⟨_, rfl, rfl, Or.inr ⟨p, d, hp, rfl, hg0, hd, rfl, Or.inr ⟨c25, Or.inr ⟨bI_n0.mp c45, Or.inl ⟨by rw [nI_inj (a := sz p) (b := 8) (by omega) (by decide) (hr2.1.symm.trans c59)]; decide, rfl, fr2⟩⟩⟩⟩⟩
        · refine wx_bipush C (-3) dX11_join_48 (by decide) ?_
          refine wx_iret C hQ dX11_join_50 ?_
          exact ⟨_, rfl, rfl, Or.inr ⟨p, d, hp, rfl, hg0, hd, rfl, Or.inr ⟨c25, Or.inl ⟨bI_0.mp c45, rfl, fr2⟩⟩⟩⟩
      · refine wx_bipush C (-3) dX11_join_28 (by decide) ?_
        refine wx_iret C hQ dX11_join_30 ?_
        exact ⟨_, rfl, rfl, Or.inr ⟨p, d, hp, rfl, hg0, hd, rfl, Or.inl ⟨c25, rfl, frM.rf M⟩⟩⟩
    · refine wx_iconst C (-1) dX11_join_16 (by decide) ?_
      refine wx_iret C hQ dX11_join_17 ?_
      refine ⟨_, rfl, rfl, Or.inl ⟨?_, rfl, frM.rf M⟩⟩
      first
      | exact Or.inl (bI_0.mp c5)
      | exact Or.inr (bI_0.mp c13)
set_option maxHeartbeats 4000000 in
set_option maxRecDepth 100000 in
theorem t_X11_joinBit (G : g_G) (M : g_M) (L : g_L) (x y : Int32) {n e fa ac : Nat} {sz : Nat → Nat} {rr : Nat → Nat → Nat} {go : Nat → Bool} (hM : mI M n e fa ac sz rr go) : mt G yX11_joinBit (Cond.code yX11_joinBit cX11_joinBit 4 (some .int)) 4 [.ref (G.1 + 149), .int x, .int y] M L (qI fun v M' L' => L = L' ∧ (((mHas M e x = false ∨ getP (bl (mB M) n n) y = none) ∧ v = -1 ∧ frM M M') ∨ ∃ p e0, p < e ∧ x = nI p ∧ M 158 p = 0 ∧ getP (bl (mB M) n n) y = some e0 ∧ ((msnd M (rad (rad (rr p) (sz p) e0.1) (sz p + 1) e0.2) (sz p + 1 + 1) = false ∧ v = -3 ∧ frM M M') ∨ (msnd M (rad (rad (rr p) (sz p) e0.1) (sz p + 1) e0.2) (sz p + 1 + 1) = true ∧ mjnP M fa ac p (sz p) 2 (fun i => if i = 0 then e0.1 else e0.2) v M')))) := by
  refine mt_of (by decide) rfl (Nat.le_of_ble_eq_true rfl) [(0, .ref (G.1 + 149)), (1, .int x), (2, .int y)] rfl (fun X hG C hQ => ?_)
  subst hG
  refine wx_aload_n C 0 dX11_joinBit_0 rfl rfl ?_
  refine ca_X11_157 C (rest := []) (t_X11_findBits X.1 M L hM.hn hM.n60 (fun d => hM.t)) (by decide) rfl (by decide) rfl rfl (Nat.le_of_ble_eq_true rfl) dX11_joinBit_1 (kV fun M1 L1 q1 => ?_)
  obtain ⟨rfl, hB⟩ := q1
  have hmax := bits_le hM.n60 (fun d => hM.t)
  have hM1 := hM.fr hB.1
  refine wx_aload_n C 0 dX11_joinBit_4 rfl rfl ?_
  refine wx_iload_n C 1 dX11_joinBit_5 rfl rfl ?_
  refine ca_X11_185 C (rest := []) (t_X11_isPath X.1 M1 L x hM1.he hM1.e12) (by decide) rfl (by decide) rfl rfl (Nat.le_of_ble_eq_true rfl) dX11_joinBit_6 (kI fun r6 M6 L6 q6 => ?_)
  obtain ⟨rfl, rfl, rfl⟩ := q6
  refine wx_if_eq C 26 dX11_joinBit_9 (by decide) (fun c9 => ?_) (fun c9 => ?_)
  · refine wx_iconst C (-1) dX11_joinBit_26 (by decide) ?_
    refine wx_iret C hQ dX11_joinBit_27 ?_
    refine ⟨_, rfl, rfl, Or.inl ⟨?_, rfl, hB.1⟩⟩
    first
    | (refine Or.inl ?_
       have hz := bI_0.mp c9
       rw [hB.1.hh] at hz
       exact hz)
    | (refine Or.inr ?_
       have hin := bI_0.mp c23
       rw [hB.2.1, inW_p (by omega)] at hin
       exact getP_dn (by omega) hin)
  · have hin0 := bI_n0.mp c9
    rw [hB.1.hh] at hin0
    obtain ⟨p, hp, rfl, hg0⟩ := mHas_t hM.e12 hin0
    have hp12 : p < 12 := by have := hM.e12; omega
    have hr := hM1.r hp12
    have h8a := hr.2.1
    refine wx_iload_n C 2 dX11_joinBit_12 rfl rfl ?_
    refine wx_iconst C 0 dX11_joinBit_13 (by decide) ?_
    refine wx_aload_n C 0 dX11_joinBit_14 rfl rfl ?_
    refine gf_X11_150 C dX11_joinBit_15 ?_
    refine wx_iconst C 1 dX11_joinBit_18 (by decide) ?_
    refine wx_isub C dX11_joinBit_19 ?_
    refine ca_X11_78 C (rest := []) (t_X11_isIn X.1 M1 L y 0 (M1 149 22 - 1)) (by decide) rfl rfl (Nat.le_of_ble_eq_true rfl) dX11_joinBit_20 (kI fun r20 M20 L20 q20 => ?_)
    obtain ⟨rfl, rfl, rfl⟩ := q20
    refine wx_if_ne C 28 dX11_joinBit_23 (by decide) (fun c23 => ?_) (fun c23 => ?_)
    · have hin := bI_n0.mp c23
      rw [hB.2.1, inW_p (by omega)] at hin
      obtain ⟨q, hq, rfl⟩ := dHas_t (by omega) hin
      have he0 := getD_some hq
      have eE : getP (bl (mB M) n n) (nI q) = some ((bl (mB M) n n).getD q (0, 0)) := by
        rw [getP_n (by omega)]
        exact he0
      have hq2 := hB.2.2 q _ he0
      have hb1 := bl_mem (Nat.le_refl n) _ (List.mem_of_getElem? he0)
      generalize (bl (mB M) n n).getD q (0, 0) = e0 at he0 eE hq2 hb1
      have hn60 := hM.n60
      refine wx_aload_n C 0 dX11_joinBit_28 rfl rfl ?_
      refine wx_iload_n C 1 dX11_joinBit_29 rfl rfl ?_
      refine ca_X11_127 C (rest := []) (t_X11_take X.1 M1 L rfl hp12 hr.1 hr.2.1) (by decide) rfl (by decide) rfl rfl (Nat.le_of_ble_eq_true rfl) dX11_joinBit_30 (kV fun M30 L30 q30 => ?_)
      obtain ⟨rfl, rfl⟩ := q30
      change wx X (tkp M1 p (sz p)) L _ _ _
      have e160 : tkp M1 p (sz p) 160 q = nI e0.1 := by unfold tkp; rw [tk_o _ _ _ _ _ (by decide) (by decide)]; exact hq2.1
      refine wx_aload_n C 0 dX11_joinBit_33 rfl rfl ?_
      refine wx_aload_n C 0 dX11_joinBit_34 rfl rfl ?_
      refine gf_X11_51 C dX11_joinBit_35 ?_
      refine wx_iload_n C 2 dX11_joinBit_38 rfl rfl ?_
      refine wx_iald C 160 q (by decide) (fun _ _ => rfl) (by decide) dX11_joinBit_39 rfl (by omega) ?_
      refine ca_X11_163 C (rest := []) (t_X11_adds X.1 (tkp M1 p (sz p)) L (tk_c _ _ _ _) (by omega) _) (by decide) rfl (by decide) rfl rfl (Nat.le_of_ble_eq_true rfl) dX11_joinBit_40 (kV fun M40 L40 q40 => ?_)
      obtain ⟨rfl, rfl⟩ := q40
      rw [e160]
      change wx X (tka M1 p (sz p) (nI e0.1)) L _ _ _
      have e161 : tka M1 p (sz p) (nI e0.1) 161 q = nI e0.2 := by unfold tka tkp; rw [g_st_ap, if_neg (by omega), g_st_ap, if_neg (by omega), tk_o _ _ _ _ _ (by decide) (by decide)]; exact hq2.2
      refine wx_aload_n C 0 dX11_joinBit_43 rfl rfl ?_
      refine wx_aload_n C 0 dX11_joinBit_44 rfl rfl ?_
      refine gf_X11_54 C dX11_joinBit_45 ?_
      refine wx_iload_n C 2 dX11_joinBit_48 rfl rfl ?_
      refine wx_iald C 161 q (by decide) (fun _ _ => rfl) (by decide) dX11_joinBit_49 rfl (by omega) ?_
      refine ca_X11_163 C (rest := []) (t_X11_adds X.1 (tka M1 p (sz p) (nI e0.1)) L (l := sz p + 1) (by unfold tka; rw [g_st_ap, if_pos ⟨rfl, rfl⟩]) (by omega) _) (by decide) rfl (by decide) rfl rfl (Nat.le_of_ble_eq_true rfl) dX11_joinBit_50 (kV fun M50 L50 q50 => ?_)
      obtain ⟨rfl, rfl⟩ := q50
      rw [e161]
      change wx X (tkb M1 p (sz p) (nI e0.1) (nI e0.2)) L _ _ _
      have fr := hB.1.trans (tkb_fr M1 p (sz p) (nI e0.1) (nI e0.2))
      refine wx_aload_n C 0 dX11_joinBit_53 rfl rfl ?_
      refine ca_X11_131 C (rest := []) (t_heap X.1 (tkb M1 p (sz p) (nI e0.1) (nI e0.2)) L (sok_add (sok_add (tk_sok hr) (by omega) (d := e0.1) (by omega)) (by omega) (d := e0.2) (by omega)) (fr.g hM.g)) (by decide) rfl (by decide) rfl rfl (Nat.le_of_ble_eq_true rfl) dX11_joinBit_54 (kI fun r54 M54 L54 q54 => ?_)
      obtain ⟨rfl, rfl, a54, b54, rfl⟩ := q54
      rw [fr.eS]
      have fr2 := fr.trans (frM_mn (tkb M1 p (sz p) (nI e0.1) (nI e0.2)) a54 b54)
      have hM2 := hM.fr fr2
      have h160 : mn (tkb M1 p (sz p) (nI e0.1) (nI e0.2)) a54 b54 160 q = nI e0.1 := by rw [mn_o _ _ _ (by decide)]; unfold tkb tka tkp; rw [g_st_ap, if_neg (by omega), g_st_ap, if_neg (by omega), g_st_ap, if_neg (by omega), g_st_ap, if_neg (by omega), tk_o _ _ _ _ _ (by decide) (by decide)]; exact hq2.1
      have h161 : mn (tkb M1 p (sz p) (nI e0.1) (nI e0.2)) a54 b54 161 q = nI e0.2 := by rw [mn_o _ _ _ (by decide)]; unfold tkb tka tkp; rw [g_st_ap, if_neg (by omega), g_st_ap, if_neg (by omega), g_st_ap, if_neg (by omega), g_st_ap, if_neg (by omega), tk_o _ _ _ _ _ (by decide) (by decide)]; exact hq2.2
      generalize mn (tkb M1 p (sz p) (nI e0.1) (nI e0.2)) a54 b54 = M2 at fr2 hM2 h160 h161 ⊢
      have hr2 := hM2.r hp12
      refine wx_if_ne C 63 dX11_joinBit_57 (by decide) (fun c57 => ?_) (fun c57 => ?_)
      · refine wx_aload_n C 0 dX11_joinBit_63 rfl rfl ?_
        refine gf_X11_38 C dX11_joinBit_64 ?_
        refine wx_iload_n C 1 dX11_joinBit_67 rfl rfl ?_
        refine wx_iald C 156 p (by decide) (fun _ _ => rfl) (by decide) dX11_joinBit_68 rfl hp12 ?_
        refine wx_iconst C 2 dX11_joinBit_69 (by decide) ?_
        refine wx_iadd C dX11_joinBit_70 ?_
        refine wx_bipush C 8 dX11_joinBit_71 (by decide) ?_
        refine wx_icmp_le C 79 dX11_joinBit_73 (by decide) (fun c73 => ?_) (fun c73 => ?_)
        · have h8 : sz p + 2 ≤ 8 := by
            rw [hr2.1, show (2 : Int32) = nI 2 from rfl, nI_add, show (8 : Int32) = nI 8 from rfl] at c73
            exact (nI_leI (by omega) (by omega)).mp c73
          refine wx_aload_n C 0 dX11_joinBit_79 rfl rfl ?_
          refine ca_X11_175 C (rest := []) (t_X11_keep X.1 M2 L hM2.hfa hM2.fa30 hM2.hac hM2.ac30 (fun p => hM2.hgo)) (by decide) rfl (by decide) rfl rfl (Nat.le_of_ble_eq_true rfl) dX11_joinBit_80 (kV fun M80 L80 q80 => ?_)
          obtain ⟨rfl, rfl⟩ := q80
          change wx X (cms (mKP M2 fa ac) p (sz p) (fun i => if i = 0 then e0.1 else e0.2) 0) L _ _ _
          have h156 : mKP M2 fa ac 156 p = nI (sz p) := by rw [mKP_o _ _ _ _ (by decide) (by decide)]; exact (hM2.r hp12).1
          refine wx_aload_n C 0 dX11_joinBit_83 rfl rfl ?_
          refine gf_X11_54 C dX11_joinBit_84 ?_
          refine wx_iload_n C 2 dX11_joinBit_87 rfl rfl ?_
          refine wx_iald C 161 q (by decide) (fun _ _ => rfl) (by decide) dX11_joinBit_88 rfl (by omega) ?_
          refine wx_nmi (fun sc hsc0 => ?_)
          refine wx_istore_n C [1, 2, 3, 0] [(0, .ref (X.1.1 + 149)), (1, .int (nI p)), (2, .int (nI q)), (3, .int sc)] dX11_joinBit_89 rfl (by decide) rfl ?_
          have hsc : sc = nI e0.2 := by rw [hsc0, cms, mKP_o _ _ _ _ (by decide) (by decide)]; exact h161
          refine wx_aload_n C 0 dX11_joinBit_90 rfl rfl ?_
          refine wx_iload_n C 1 dX11_joinBit_91 rfl rfl ?_
          refine wx_aload_n C 0 dX11_joinBit_92 rfl rfl ?_
          refine gf_X11_51 C dX11_joinBit_93 ?_
          refine wx_iload_n C 2 dX11_joinBit_96 rfl rfl ?_
          refine wx_iald C 160 q (by decide) (fun _ _ => rfl) (by decide) dX11_joinBit_97 rfl (by omega) ?_
          refine ca_X11_181 C (rest := []) (t_X11_comes X.1 (cms (mKP M2 fa ac) p (sz p) (fun i => if i = 0 then e0.1 else e0.2) 0) L (p := p) (l := sz p + 0) (d := e0.1) rfl hp12 (cms_156 _ h156 0) (by omega) (by rw [cms, mKP_o _ _ _ _ (by decide) (by decide)]; exact h160) (by omega)) (by decide) rfl (by decide) rfl rfl (Nat.le_of_ble_eq_true rfl) dX11_joinBit_98 (kV fun M98 L98 q98 => ?_)
          obtain ⟨rfl, rfl⟩ := q98
          change wx X (cms (mKP M2 fa ac) p (sz p) (fun i => if i = 0 then e0.1 else e0.2) 1) L _ _ _
          refine wx_aload_n C 0 dX11_joinBit_101 rfl rfl ?_
          refine wx_iload_n C 1 dX11_joinBit_102 rfl rfl ?_
          refine wx_iload_n C 3 dX11_joinBit_103 rfl rfl ?_
          refine ca_X11_181 C (rest := []) (t_X11_comes X.1 (cms (mKP M2 fa ac) p (sz p) (fun i => if i = 0 then e0.1 else e0.2) 1) L (p := p) (l := sz p + 1) (d := e0.2) rfl hp12 (cms_156 _ h156 1) (by omega) hsc (by omega)) (by decide) rfl (by decide) rfl rfl (Nat.le_of_ble_eq_true rfl) dX11_joinBit_104 (kV fun M104 L104 q104 => ?_)
          obtain ⟨rfl, rfl⟩ := q104
          change wx X (cms (mKP M2 fa ac) p (sz p) (fun i => if i = 0 then e0.1 else e0.2) 2) L _ _ _
          refine wx_aload_n C 0 dX11_joinBit_107 rfl rfl ?_
          refine gf_X11_38 C dX11_joinBit_108 ?_
          refine wx_iload_n C 1 dX11_joinBit_111 rfl rfl ?_
          refine wx_iald C 156 p (by decide) (fun _ _ => rfl) (by decide) dX11_joinBit_112 rfl hp12 ?_
          refine wx_iret C hQ dX11_joinBit_113 ?_
          exact ⟨_, rfl, rfl, Or.inr ⟨p, e0, hp, rfl, hg0, eE, Or.inr ⟨bI_n0.mp c57, Or.inr ⟨by omega, cms_156 _ h156 2, M2, fr2, rfl⟩⟩⟩⟩
        · refine wx_bipush C (-4) dX11_joinBit_76 (by decide) ?_
          refine wx_iret C hQ dX11_joinBit_78 ?_
          refine ⟨_, rfl, rfl, Or.inr ⟨p, e0, hp, rfl, hg0, eE, Or.inr ⟨bI_n0.mp c57, Or.inl ⟨?_, rfl, fr2⟩⟩⟩⟩
          rw [hr2.1, show (2 : Int32) = nI 2 from rfl, nI_add, show (8 : Int32) = nI 8 from rfl] at c73
          exact Nat.lt_of_not_le (fun h => c73 ((nI_leI (by omega) (by omega)).mpr h))
      · refine wx_bipush C (-3) dX11_joinBit_60 (by decide) ?_
        refine wx_iret C hQ dX11_joinBit_62 ?_
        exact ⟨_, rfl, rfl, Or.inr ⟨p, e0, hp, rfl, hg0, eE, Or.inl ⟨bI_0.mp c57, rfl, fr2⟩⟩⟩
    · refine wx_iconst C (-1) dX11_joinBit_26 (by decide) ?_
      refine wx_iret C hQ dX11_joinBit_27 ?_
      refine ⟨_, rfl, rfl, Or.inl ⟨?_, rfl, hB.1⟩⟩
      first
      | (refine Or.inl ?_
         have hz := bI_0.mp c9
         rw [hB.1.hh] at hz
         exact hz)
      | (refine Or.inr ?_
         have hin := bI_0.mp c23
         rw [hB.2.1, inW_p (by omega)] at hin
         exact getP_dn (by omega) hin)
