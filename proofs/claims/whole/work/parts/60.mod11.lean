/-! ===== the reference: areSame, same, merge ===== -/
theorem tk_add (M : g_M) (l : Nat) (F : Nat → Int32) : g_st (g_st (tk M l F l) 159 l (F l)) 149 15 (nI (l + 1)) = tk M (l + 1) F (l + 1) := by
  funext a b
  simp only [g_st_ap, tk]
  by_cases hb : b = l
  · subst hb
    (repeat' split) <;> first | rfl | (exfalso; omega)
  · (repeat' split) <;> first | rfl | (exfalso; omega)
theorem tk_cg (M : g_M) (l : Nat) {F H : Nat → Int32} (h : ∀ i, i < l → F i = H i) : tk M l F l = tk M l H l := by
  funext a b
  simp only [tk]
  (repeat' split) <;> first | rfl | (exfalso; omega) | (rename_i z; exact h b z.2)
theorem tk_ok {M : g_M} {l : Nat} {F : Nat → Int32} {r : Nat → Nat} (h16 : l ≤ 16) (h : ∀ i, i < l → F i = nI (r i) ∧ r i < 60) : sok (tk M l F l) l r := by
  refine ⟨tk_c _ _ _ _, h16, fun i hi => ⟨?_, (h i hi).2⟩⟩
  show (if _ ∧ _ then _ else if _ then _ else _) = _
  rw [if_neg (by omega), if_pos ⟨rfl, hi⟩]
  exact (h i hi).1
def asF (M : g_M) (p q la : Nat) : Nat → Int32 := fun b => if b < la then M 157 (8 * p + b) else M 157 (8 * q + (b - la))
theorem asF_la (M : g_M) (p q la i : Nat) : asF M p q la (la + i) = M 157 (8 * q + i) := by
  unfold asF
  rw [if_neg (by omega), Nat.add_sub_cancel_left]
set_option maxHeartbeats 4000000 in
set_option maxRecDepth 100000 in
theorem lp_X11_areSame {X : g_X} {Qr : Option Value → g_M → g_L → Prop} (C : Cx X cX11_areSame 4 RX11 (some .boolean) 4) (hQ : Rx X Qr) {M : g_M} {L : g_L} {p q la lb : Nat} {r s : Nat → Nat} (hp12 : p < 12) (hq12 : q < 12) (hr : mrw M p la r) (hs : mrw M q lb s) (hg : 1 ≤ (M 149 3).toInt) (hp : ∀ N, frM M N → Qr (some (.int (bI (msnd M (fun i => if i < la then r i else s (i - la)) (la + lb))))) N L) : ∀ (n i : Nat), i ≤ lb → lb < i + n → wx X (tk M (la + i) (asF M p q la) (la + i)) L 7 [(0, .ref (X.1.1 + 149)), (1, .int (nI p)), (2, .int (nI q)), (3, .int (nI i))] [] := by
  intro n
  induction n with
  | zero =>
    intro i h1 h2
    exact absurd h2 (by omega)
  | succ n ih =>
    intro i hi0 hin
    have h8a := hr.2.1
    have h8b := hs.2.1
    have fr := frM_tk M (la + i) (asF M p q la) (la + i)
    have h156 : tk M (la + i) (asF M p q la) (la + i) 156 q = nI lb := by rw [tk_o _ _ _ _ _ (by decide) (by decide)]; exact hs.1
    refine wx_iload_n C 3 dX11_areSame_7 rfl rfl ?_
    refine wx_aload_n C 0 dX11_areSame_8 rfl rfl ?_
    refine gf_X11_38 C dX11_areSame_9 ?_
    refine wx_iload_n C 2 dX11_areSame_12 rfl rfl ?_
    refine wx_iald C 156 q (by decide) (fun _ _ => rfl) (by decide) dX11_areSame_13 rfl (by omega) ?_
    refine wx_icmp_ge C 38 dX11_areSame_14 (by decide) (fun c14 => ?_) (fun c14 => ?_)
    · have hib : i = lb := by
        rw [h156] at c14
        exact Nat.le_antisymm hi0 ((nI_leI (by omega) (by omega)).mp c14)
      have hk : sok (tk M (la + i) (asF M p q la) (la + i)) (la + i) (fun i => if i < la then r i else s (i - la)) := tk_ok (by omega) (fun j hj => by
        unfold asF
        by_cases hj2 : j < la
        · simp only [if_pos hj2]
          exact hr.2.2 j hj2
        · simp only [if_neg hj2]
          exact hs.2.2 (j - la) (by omega))
      refine wx_aload_n C 0 dX11_areSame_38 rfl rfl ?_
      refine ca_X11_131 C (rest := []) (t_heap X.1 (tk M (la + i) (asF M p q la) (la + i)) L hk (fr.g hg)) (by decide) rfl (by decide) rfl rfl (Nat.le_of_ble_eq_true rfl) dX11_areSame_39 (kI fun r39 M39 L39 q39 => ?_)
      obtain ⟨rfl, rfl, a39, b39, rfl⟩ := q39
      rw [fr.eS, hib]
      refine wx_zret C hQ dX11_areSame_42 (bI_nar _) ?_
      rw [hib] at fr
      exact hp _ (fr.trans (frM_mn _ _ _))
    · have hi : i < lb := by
        rw [h156] at c14
        exact Nat.lt_of_not_le (fun h => c14 ((nI_leI (by omega) (by omega)).mpr h))
      have h157 : tk M (la + i) (asF M p q la) (la + i) 157 (8 * q + i) = asF M p q la (la + i) := by rw [tk_o _ _ _ _ _ (by decide) (by decide), asF_la]
      refine wx_aload_n C 0 dX11_areSame_17 rfl rfl ?_
      refine wx_aload_n C 0 dX11_areSame_18 rfl rfl ?_
      refine gf_X11_41 C dX11_areSame_19 ?_
      refine wx_bipush C 8 dX11_areSame_22 (by decide) ?_
      refine wx_iload_n C 2 dX11_areSame_24 rfl rfl ?_
      refine wx_imul C dX11_areSame_25 ?_
      refine wx_iload_n C 3 dX11_areSame_26 rfl rfl ?_
      refine wx_iadd C dX11_areSame_27 ?_
      refine wx_iald C 157 (8 * q + i) (by decide) (fun _ _ => rfl) (by decide) dX11_areSame_28 (by rw [show (8 : Int32) = nI 8 from rfl, pk_mul, nI_add]) (by omega) ?_
      refine ca_X11_163 C (rest := []) (t_X11_adds X.1 (tk M (la + i) (asF M p q la) (la + i)) L (tk_c _ _ _ _) (by omega) _) (by decide) rfl (by decide) rfl rfl (Nat.le_of_ble_eq_true rfl) dX11_areSame_29 (kV fun M29 L29 q29 => ?_)
      obtain ⟨rfl, rfl⟩ := q29
      rw [h157, tk_add]
      refine wx_iinc C (v := (nI (i + 1))) 3 [1, 2, 3, 0] [(0, .ref (X.1.1 + 149)), (1, .int (nI p)), (2, .int (nI q)), (3, .int (nI (i + 1)))] dX11_areSame_32 rfl (nI_1 _) (by decide) rfl ?_
      refine wx_goto C 7 dX11_areSame_35 (by decide) ?_
      exact ih (i + 1) (by omega) (by omega)
set_option maxHeartbeats 4000000 in
set_option maxRecDepth 100000 in
theorem t_X11_areSame (G : g_G) (M : g_M) (L : g_L) {x y : Int32} {p q la lb : Nat} {r s : Nat → Nat} (hx : x = nI p) (hp12 : p < 12) (hy : y = nI q) (hq12 : q < 12) (hr : mrw M p la r) (hs : mrw M q lb s) (hg : 1 ≤ (M 149 3).toInt) : mt G yX11_areSame (Cond.code yX11_areSame cX11_areSame 4 (some .boolean)) 4 [.ref (G.1 + 149), .int x, .int y] M L (qI fun v M' L' => L = L' ∧ v = bI (msnd M (fun i => if i < la then r i else s (i - la)) (la + lb)) ∧ frM M M') := by
  refine mt_of (by decide) rfl (Nat.le_of_ble_eq_true rfl) [(0, .ref (G.1 + 149)), (1, .int x), (2, .int y)] rfl (fun X hG C hQ => ?_)
  subst hG
  refine wx_aload_n C 0 dX11_areSame_0 rfl rfl ?_
  refine wx_iload_n C 1 dX11_areSame_1 rfl rfl ?_
  refine ca_X11_127 C (rest := []) (t_X11_take X.1 M L hx hp12 hr.1 hr.2.1) (by decide) rfl (by decide) rfl rfl (Nat.le_of_ble_eq_true rfl) dX11_areSame_2 (kV fun M2 L2 q2 => ?_)
  obtain ⟨rfl, rfl⟩ := q2
  refine wx_iconst C 0 dX11_areSame_5 (by decide) ?_
  refine wx_istore_n C [1, 2, 3, 0] [(0, .ref (X.1.1 + 149)), (1, .int x), (2, .int y), (3, .int 0)] dX11_areSame_6 rfl (by decide) rfl ?_
  rw [hx, hy, show tk M la (fun b => M 157 (8 * p + b)) la = tk M (la + 0) (asF M p q la) (la + 0) from tk_cg M la (fun i hi => by unfold asF; rw [if_pos hi])]
  exact lp_X11_areSame C hQ hp12 hq12 hr hs hg (fun N hN => ⟨_, rfl, rfl, rfl, hN⟩) (lb + 1) 0 (by omega) (by omega)
set_option maxHeartbeats 4000000 in
set_option maxRecDepth 100000 in
theorem t_X11_same (G : g_G) (M : g_M) (L : g_L) (x y : Int32) {n e fa ac : Nat} {sz : Nat → Nat} {rr : Nat → Nat → Nat} {go : Nat → Bool} (hM : mI M n e fa ac sz rr go) : mt G yX11_same (Cond.code yX11_same cX11_same 3 (some .int)) 5 [.ref (G.1 + 149), .int x, .int y] M L (qI fun v M' L' => L = L' ∧ (((mHas M e x = false ∨ mHas M e y = false) ∧ v = -1 ∧ frM M M') ∨ ∃ p q, p < e ∧ x = nI p ∧ M 158 p = 0 ∧ q < e ∧ y = nI q ∧ M 158 q = 0 ∧ ((p = q ∧ v = -2 ∧ frM M M') ∨ (p ≠ q ∧ v = bI (msnd M (rbo sz rr p q) (sz p + sz q)) ∧ frM M M')))) := by
  refine mt_of (by decide) rfl (Nat.le_of_ble_eq_true rfl) [(0, .ref (G.1 + 149)), (1, .int x), (2, .int y)] rfl (fun X hG C hQ => ?_)
  subst hG
  refine wx_aload_n C 0 dX11_same_0 rfl rfl ?_
  refine wx_iload_n C 1 dX11_same_1 rfl rfl ?_
  refine ca_X11_185 C (rest := []) (t_X11_isPath X.1 M L x hM.he hM.e12) (by decide) rfl (by decide) rfl rfl (Nat.le_of_ble_eq_true rfl) dX11_same_2 (kI fun r2 M2 L2 q2 => ?_)
  obtain ⟨rfl, rfl, rfl⟩ := q2
  refine wx_if_eq C 16 dX11_same_5 (by decide) (fun c5 => ?_) (fun c5 => ?_)
  · refine wx_iconst C (-1) dX11_same_16 (by decide) ?_
    refine wx_iret C hQ dX11_same_17 ?_
    refine ⟨_, rfl, rfl, Or.inl ⟨?_, rfl, frM.rf M⟩⟩
    first
    | exact Or.inl (bI_0.mp c5)
    | exact Or.inr (bI_0.mp c13)
  · obtain ⟨p, hp, rfl, hgp⟩ := mHas_t hM.e12 (bI_n0.mp c5)
    have hp12 : p < 12 := by have := hM.e12; omega
    have hrp := hM.r hp12
    refine wx_aload_n C 0 dX11_same_8 rfl rfl ?_
    refine wx_iload_n C 2 dX11_same_9 rfl rfl ?_
    refine ca_X11_185 C (rest := []) (t_X11_isPath X.1 M L y hM.he hM.e12) (by decide) rfl (by decide) rfl rfl (Nat.le_of_ble_eq_true rfl) dX11_same_10 (kI fun r10 M10 L10 q10 => ?_)
    obtain ⟨rfl, rfl, rfl⟩ := q10
    refine wx_if_ne C 18 dX11_same_13 (by decide) (fun c13 => ?_) (fun c13 => ?_)
    · obtain ⟨q, hq, rfl, hgq⟩ := mHas_t hM.e12 (bI_n0.mp c13)
      have hq12 : q < 12 := by have := hM.e12; omega
      have hrq := hM.r hq12
      refine wx_iload_n C 1 dX11_same_18 rfl rfl ?_
      refine wx_iload_n C 2 dX11_same_19 rfl rfl ?_
      refine wx_icmp_ne C 26 dX11_same_20 (by decide) (fun c20 => ?_) (fun c20 => ?_)
      · have hne : p ≠ q := fun z => c20 (by rw [z])
        refine wx_aload_n C 0 dX11_same_26 rfl rfl ?_
        refine wx_iload_n C 1 dX11_same_27 rfl rfl ?_
        refine wx_iload_n C 2 dX11_same_28 rfl rfl ?_
        refine ca_X11_229 C (rest := []) (t_X11_areSame X.1 M L (p := p) (q := q) rfl hp12 rfl hq12 hrp hrq hM.g) (by decide) rfl (by decide) rfl rfl (Nat.le_of_ble_eq_true rfl) dX11_same_29 (kI fun r29 M29 L29 q29 => ?_)
        obtain ⟨rfl, rfl, fr⟩ := q29
        change wx X _ L _ _ (.int (bI (msnd M (rbo sz rr p q) (sz p + sz q))) :: [])
        refine wx_if_eq C 39 dX11_same_32 (by decide) (fun c32 => ?_) (fun c32 => ?_)
        · refine wx_iconst C 0 dX11_same_39 (by decide) ?_
          refine wx_iret C hQ dX11_same_40 ?_
          refine ⟨_, rfl, rfl, Or.inr ⟨p, q, hp, rfl, hgp, hq, rfl, hgq, Or.inr ⟨hne, ?_, fr⟩⟩⟩
          rw [bI_0.mp c32]
          rfl
        · refine wx_iconst C 1 dX11_same_35 (by decide) ?_
          refine wx_goto C 40 dX11_same_36 (by decide) ?_
          refine wx_iret C hQ dX11_same_40 ?_
          refine ⟨_, rfl, rfl, Or.inr ⟨p, q, hp, rfl, hgp, hq, rfl, hgq, Or.inr ⟨hne, ?_, fr⟩⟩⟩
          rw [bI_n0.mp c32]
          rfl
      · refine wx_bipush C (-2) dX11_same_23 (by decide) ?_
        refine wx_iret C hQ dX11_same_25 ?_
        exact ⟨_, rfl, rfl, Or.inr ⟨p, q, hp, rfl, hgp, hq, rfl, hgq, Or.inl ⟨nI_inj (by omega) (by omega) c20, rfl, frM.rf M⟩⟩⟩
    · refine wx_iconst C (-1) dX11_same_16 (by decide) ?_
      refine wx_iret C hQ dX11_same_17 ?_
      refine ⟨_, rfl, rfl, Or.inl ⟨?_, rfl, frM.rf M⟩⟩
      first
      | exact Or.inl (bI_0.mp c5)
      | exact Or.inr (bI_0.mp c13)
def mgM (N : g_M) (fa ac s g l : Nat) (f : Nat → Nat) (l2 : Nat) : g_M := g_st (g_st (cms (mKP N fa ac) s l f l2) 156 g 0) 158 g 1
set_option maxHeartbeats 4000000 in
set_option maxRecDepth 100000 in
theorem lp_X11_merge {X : g_X} {Qr : Option Value → g_M → g_L → Prop} (C : Cx X cX11_merge 6 RX11 (some .int) 5) (hQ : Rx X Qr) {M : g_M} {L : g_L} {N : g_M} {n e fa ac s g : Nat} {sz : Nat → Nat} {rr : Nat → Nat → Nat} {go : Nat → Bool} {z1 z2 : Int32} (hM : mI N n e fa ac sz rr go) (hs12 : s < 12) (hg12 : g < 12) (hsg : s < g) (h8 : sz s + sz g ≤ 8) (hp : Qr (some (.int (nI s))) (mgM N fa ac s g (sz s) (rr g) (sz g)) L) : ∀ (kk i : Nat), i ≤ sz g → sz g < i + kk → wx X (cms (mKP N fa ac) s (sz s) (rr g) i) L 79 [(0, .ref (X.1.1 + 149)), (1, .int z1), (2, .int z2), (3, .int (nI s)), (4, .int (nI g)), (5, .int (nI i))] [] := by
  intro kk
  induction kk with
  | zero =>
    intro i h1 h2
    exact absurd h2 (by omega)
  | succ kk ih =>
    intro i hi0 hin
    have hrs := hM.r hs12
    have hrg := hM.r hg12
    have h156 : (cms (mKP N fa ac) s (sz s) (rr g) i) 156 g = nI (sz g) := by rw [cms_156o _ (by omega), mKP_o _ _ _ _ (by decide) (by decide)]; exact hrg.1
    refine wx_iload C 5 dX11_merge_79 rfl ?_
    refine wx_aload_n C 0 dX11_merge_81 rfl rfl ?_
    refine gf_X11_38 C dX11_merge_82 ?_
    refine wx_iload C 4 dX11_merge_85 rfl ?_
    refine wx_iald C 156 g (by decide) (fun _ _ => rfl) (by decide) dX11_merge_87 rfl (by omega) ?_
    refine wx_icmp_ge C 115 dX11_merge_88 (by decide) (fun c88 => ?_) (fun c88 => ?_)
    · have hib : i = sz g := by
        rw [h156] at c88
        exact Nat.le_antisymm hi0 ((nI_leI (by omega) (by omega)).mp c88)
      refine wx_aload_n C 0 dX11_merge_115 rfl rfl ?_
      refine gf_X11_38 C dX11_merge_116 ?_
      refine wx_iload C 4 dX11_merge_119 rfl ?_
      refine wx_iconst C 0 dX11_merge_121 (by decide) ?_
      refine wx_iast C 156 g (by decide) (fun _ _ => rfl) (by decide) dX11_merge_122 rfl (by omega) ?_
      refine wx_aload_n C 0 dX11_merge_123 rfl rfl ?_
      refine gf_X11_44 C dX11_merge_124 ?_
      refine wx_iload C 4 dX11_merge_127 rfl ?_
      refine wx_iconst C 1 dX11_merge_129 (by decide) ?_
      refine wx_zast C 158 g (by decide) (fun _ _ => rfl) (by decide) dX11_merge_130 rfl (by omega) (by decide) ?_
      refine wx_iload_n C 3 dX11_merge_131 rfl rfl ?_
      refine wx_iret C hQ dX11_merge_132 ?_
      rw [hib]
      exact hp
    · have hi : i < sz g := by
        rw [h156] at c88
        exact Nat.lt_of_not_le (fun h => c88 ((nI_leI (by omega) (by omega)).mpr h))
      have h157 : (cms (mKP N fa ac) s (sz s) (rr g) i) 157 (8 * g + i) = nI (rr g i) := by rw [cms_157o _ _ (by omega), mKP_o _ _ _ _ (by decide) (by decide)]; exact (hrg.2.2 i hi).1
      refine wx_aload_n C 0 dX11_merge_91 rfl rfl ?_
      refine wx_iload_n C 3 dX11_merge_92 rfl rfl ?_
      refine wx_aload_n C 0 dX11_merge_93 rfl rfl ?_
      refine gf_X11_41 C dX11_merge_94 ?_
      refine wx_bipush C 8 dX11_merge_97 (by decide) ?_
      refine wx_iload C 4 dX11_merge_99 rfl ?_
      refine wx_imul C dX11_merge_101 ?_
      refine wx_iload C 5 dX11_merge_102 rfl ?_
      refine wx_iadd C dX11_merge_104 ?_
      refine wx_iald C 157 (8 * g + i) (by decide) (fun _ _ => rfl) (by decide) dX11_merge_105 (by rw [show (8 : Int32) = nI 8 from rfl, pk_mul, nI_add]) (by omega) ?_
      refine ca_X11_181 C (rest := []) (t_X11_comes X.1 (cms (mKP N fa ac) s (sz s) (rr g) i) L (p := s) (l := sz s + i) (d := rr g i) rfl hs12 (cms_156 _ (by rw [mKP_o _ _ _ _ (by decide) (by decide)]; exact hrs.1) i) (by omega) h157 (hrg.2.2 i hi).2) (by decide) rfl (by decide) rfl rfl (Nat.le_of_ble_eq_true rfl) dX11_merge_106 (kV fun M106 L106 q106 => ?_)
      obtain ⟨rfl, rfl⟩ := q106
      change wx X (cms (mKP N fa ac) s (sz s) (rr g) (i + 1)) L _ _ _
      refine wx_iinc C (v := (nI (i + 1))) 5 [1, 2, 3, 4, 5, 0] [(0, .ref (X.1.1 + 149)), (1, .int z1), (2, .int z2), (3, .int (nI s)), (4, .int (nI g)), (5, .int (nI (i + 1)))] dX11_merge_109 rfl (nI_1 _) (by decide) rfl ?_
      refine wx_goto C 79 dX11_merge_112 (by decide) ?_
      exact ih (i + 1) (by omega) (by omega)
set_option maxHeartbeats 4000000 in
set_option maxRecDepth 100000 in
theorem t_X11_merge (G : g_G) (M : g_M) (L : g_L) (x y : Int32) {n e fa ac : Nat} {sz : Nat → Nat} {rr : Nat → Nat → Nat} {go : Nat → Bool} (hM : mI M n e fa ac sz rr go) : mt G yX11_merge (Cond.code yX11_merge cX11_merge 6 (some .int)) 5 [.ref (G.1 + 149), .int x, .int y] M L (qI fun v M' L' => L = L' ∧ (((mHas M e x = false ∨ mHas M e y = false) ∧ v = -1 ∧ frM M M') ∨ ∃ p q, p < e ∧ x = nI p ∧ M 158 p = 0 ∧ q < e ∧ y = nI q ∧ M 158 q = 0 ∧ ((p = q ∧ v = -2 ∧ frM M M') ∨ (p ≠ q ∧ ((msnd M (rbo sz rr p q) (sz p + sz q) = false ∧ v = -3 ∧ frM M M') ∨ (msnd M (rbo sz rr p q) (sz p + sz q) = true ∧ ((8 < sz p + sz q ∧ v = -4 ∧ frM M M') ∨ (sz p + sz q ≤ 8 ∧ v = nI (min p q) ∧ ∃ N, frM M N ∧ M' = mgM N fa ac (min p q) (max p q) (sz (min p q)) (rr (max p q)) (sz (max p q)))))))))) := by
  refine mt_of (by decide) rfl (Nat.le_of_ble_eq_true rfl) [(0, .ref (G.1 + 149)), (1, .int x), (2, .int y)] rfl (fun X hG C hQ => ?_)
  subst hG
  refine wx_aload_n C 0 dX11_merge_0 rfl rfl ?_
  refine wx_iload_n C 1 dX11_merge_1 rfl rfl ?_
  refine ca_X11_185 C (rest := []) (t_X11_isPath X.1 M L x hM.he hM.e12) (by decide) rfl (by decide) rfl rfl (Nat.le_of_ble_eq_true rfl) dX11_merge_2 (kI fun r2 M2 L2 q2 => ?_)
  obtain ⟨rfl, rfl, rfl⟩ := q2
  refine wx_if_eq C 16 dX11_merge_5 (by decide) (fun c5 => ?_) (fun c5 => ?_)
  · refine wx_iconst C (-1) dX11_merge_16 (by decide) ?_
    refine wx_iret C hQ dX11_merge_17 ?_
    refine ⟨_, rfl, rfl, Or.inl ⟨?_, rfl, frM.rf M⟩⟩
    first
    | exact Or.inl (bI_0.mp c5)
    | exact Or.inr (bI_0.mp c13)
  · obtain ⟨p, hp, rfl, hgp⟩ := mHas_t hM.e12 (bI_n0.mp c5)
    have hp12 : p < 12 := by have := hM.e12; omega
    have hrp := hM.r hp12
    refine wx_aload_n C 0 dX11_merge_8 rfl rfl ?_
    refine wx_iload_n C 2 dX11_merge_9 rfl rfl ?_
    refine ca_X11_185 C (rest := []) (t_X11_isPath X.1 M L y hM.he hM.e12) (by decide) rfl (by decide) rfl rfl (Nat.le_of_ble_eq_true rfl) dX11_merge_10 (kI fun r10 M10 L10 q10 => ?_)
    obtain ⟨rfl, rfl, rfl⟩ := q10
    refine wx_if_ne C 18 dX11_merge_13 (by decide) (fun c13 => ?_) (fun c13 => ?_)
    · obtain ⟨q, hq, rfl, hgq⟩ := mHas_t hM.e12 (bI_n0.mp c13)
      have hq12 : q < 12 := by have := hM.e12; omega
      have hrq := hM.r hq12
      refine wx_iload_n C 1 dX11_merge_18 rfl rfl ?_
      refine wx_iload_n C 2 dX11_merge_19 rfl rfl ?_
      refine wx_icmp_ne C 26 dX11_merge_20 (by decide) (fun c20 => ?_) (fun c20 => ?_)
      · have hne : p ≠ q := fun z => c20 (by rw [z])
        refine wx_aload_n C 0 dX11_merge_26 rfl rfl ?_
        refine wx_iload_n C 1 dX11_merge_27 rfl rfl ?_
        refine wx_iload_n C 2 dX11_merge_28 rfl rfl ?_
        refine ca_X11_229 C (rest := []) (t_X11_areSame X.1 M L (p := p) (q := q) rfl hp12 rfl hq12 hrp hrq hM.g) (by decide) rfl (by decide) rfl rfl (Nat.le_of_ble_eq_true rfl) dX11_merge_29 (kI fun r29 M29 L29 q29 => ?_)
        obtain ⟨rfl, rfl, fr⟩ := q29
        change wx X _ L _ _ (.int (bI (msnd M (rbo sz rr p q) (sz p + sz q))) :: [])
        refine wx_if_ne C 38 dX11_merge_32 (by decide) (fun c32 => ?_) (fun c32 => ?_)
        · have hM2 := hM.fr fr
          have h8p := hrp.2.1
          have h8q := hrq.2.1
          have e50 : M29 156 p + M29 156 q = nI (sz p + sz q) := by rw [(hM2.r hp12).1, (hM2.r hq12).1, nI_add]
          refine wx_aload_n C 0 dX11_merge_38 rfl rfl ?_
          refine gf_X11_38 C dX11_merge_39 ?_
          refine wx_iload_n C 1 dX11_merge_42 rfl rfl ?_
          refine wx_iald C 156 p (by decide) (fun _ _ => rfl) (by decide) dX11_merge_43 rfl hp12 ?_
          refine wx_aload_n C 0 dX11_merge_44 rfl rfl ?_
          refine gf_X11_38 C dX11_merge_45 ?_
          refine wx_iload_n C 2 dX11_merge_48 rfl rfl ?_
          refine wx_iald C 156 q (by decide) (fun _ _ => rfl) (by decide) dX11_merge_49 rfl hq12 ?_
          refine wx_iadd C dX11_merge_50 ?_
          refine wx_bipush C 8 dX11_merge_51 (by decide) ?_
          refine wx_icmp_le C 59 dX11_merge_53 (by decide) (fun c53 => ?_) (fun c53 => ?_)
          · have h8 : sz p + sz q ≤ 8 := by
              rw [e50, show (8 : Int32) = nI 8 from rfl] at c53
              exact (nI_leI (by omega) (by omega)).mp c53
            refine wx_aload_n C 0 dX11_merge_59 rfl rfl ?_
            refine ca_X11_175 C (rest := []) (t_X11_keep X.1 M29 L hM2.hfa hM2.fa30 hM2.hac hM2.ac30 (fun p => hM2.hgo)) (by decide) rfl (by decide) rfl rfl (Nat.le_of_ble_eq_true rfl) dX11_merge_60 (kV fun M60 L60 q60 => ?_)
            obtain ⟨rfl, rfl⟩ := q60
            change wx X (mKP M29 fa ac) L _ _ _
            refine wx_iload_n C 1 dX11_merge_63 rfl rfl ?_
            refine wx_iload_n C 2 dX11_merge_64 rfl rfl ?_
            refine wx_mmin C w4_140 w2_196 w1_13 w2_197 (by decide) (Nat.le_of_ble_eq_true rfl) dX11_merge_65 ?_
            refine wx_nmi (fun to0 hto0 => ?_)
            refine wx_istore_n C [1, 2, 3, 0] [(0, .ref (X.1.1 + 149)), (1, .int (nI p)), (2, .int (nI q)), (3, .int to0)] dX11_merge_68 rfl (by decide) rfl ?_
            refine wx_iload_n C 1 dX11_merge_69 rfl rfl ?_
            refine wx_iload_n C 2 dX11_merge_70 rfl rfl ?_
            refine wx_mmax C w4_139 w2_193 w1_13 w2_194 (by decide) (Nat.le_of_ble_eq_true rfl) dX11_merge_71 ?_
            refine wx_nmi (fun fr0 hfr0 => ?_)
            refine wx_istore C [1, 2, 3, 4, 0] [(0, .ref (X.1.1 + 149)), (1, .int (nI p)), (2, .int (nI q)), (3, .int to0), (4, .int fr0)] dX11_merge_74 (by decide) rfl ?_
            have hmn := mn_nI hp12 hq12
            have e3 : to0 = nI (min p q) := by rw [hto0]; exact hmn.1
            have e4 : fr0 = nI (max p q) := by rw [hfr0]; exact hmn.2
            rw [e3, e4]
            refine wx_iconst C 0 dX11_merge_76 (by decide) ?_
            refine wx_istore C [1, 2, 3, 4, 5, 0] [(0, .ref (X.1.1 + 149)), (1, .int (nI p)), (2, .int (nI q)), (3, .int (nI (min p q))), (4, .int (nI (max p q))), (5, .int 0)] dX11_merge_77 (by decide) rfl ?_
            have hsm : sz (min p q) + sz (max p q) = sz p + sz q := by
              rcases Nat.lt_or_ge p q with h | h
              · rw [Nat.min_eq_left (by omega), Nat.max_eq_right (by omega)]
              · rw [Nat.min_eq_right h, Nat.max_eq_left h, Nat.add_comm]
            exact lp_X11_merge (N := M29) (M := M29) C hQ hM2 (s := min p q) (g := max p q) (by omega) (by omega) (by omega) (by omega) ⟨_, rfl, rfl, Or.inr ⟨p, q, hp, rfl, hgp, hq, rfl, hgq, Or.inr ⟨hne, Or.inr ⟨bI_n0.mp c32, Or.inr ⟨h8, rfl, M29, fr, rfl⟩⟩⟩⟩⟩ (sz (max p q) + 1) 0 (by omega) (by omega)
          · refine wx_bipush C (-4) dX11_merge_56 (by decide) ?_
            refine wx_iret C hQ dX11_merge_58 ?_
            refine ⟨_, rfl, rfl, Or.inr ⟨p, q, hp, rfl, hgp, hq, rfl, hgq, Or.inr ⟨hne, Or.inr ⟨bI_n0.mp c32, Or.inl ⟨?_, rfl, fr⟩⟩⟩⟩⟩
            rw [e50, show (8 : Int32) = nI 8 from rfl] at c53
            exact Nat.lt_of_not_le (fun h => c53 ((nI_leI (by omega) (by omega)).mpr h))
        · refine wx_bipush C (-3) dX11_merge_35 (by decide) ?_
          refine wx_iret C hQ dX11_merge_37 ?_
          exact ⟨_, rfl, rfl, Or.inr ⟨p, q, hp, rfl, hgp, hq, rfl, hgq, Or.inr ⟨hne, Or.inl ⟨bI_0.mp c32, rfl, fr⟩⟩⟩⟩
      · refine wx_bipush C (-2) dX11_merge_23 (by decide) ?_
        refine wx_iret C hQ dX11_merge_25 ?_
        exact ⟨_, rfl, rfl, Or.inr ⟨p, q, hp, rfl, hgp, hq, rfl, hgq, Or.inl ⟨nI_inj (by omega) (by omega) c20, rfl, frM.rf M⟩⟩⟩
    · refine wx_iconst C (-1) dX11_merge_16 (by decide) ?_
      refine wx_iret C hQ dX11_merge_17 ?_
      refine ⟨_, rfl, rfl, Or.inl ⟨?_, rfl, frM.rf M⟩⟩
      first
      | exact Or.inl (bI_0.mp c5)
      | exact Or.inr (bI_0.mp c13)
