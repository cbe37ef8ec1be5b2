/-! ===== the reference: undo ===== -/
/-- a snapshot: so many paths, their sizes, rows, whether gone -/
def snP (M : g_M) (k E : Nat) (s1 : Nat → Nat) (r1 : Nat → Nat → Nat) (g1 : Nat → Bool) : Prop := k < 30 ∧ M 164 k = nI E ∧ E ≤ 12 ∧ ∀ p, p < E → M 165 (12 * k + p) = nI (s1 p) ∧ s1 p ≤ 8 ∧ M 167 (12 * k + p) = bI (g1 p) ∧ ∀ i, i < s1 p → M 166 ((12 * k + p) * 8 + i) = nI (r1 p i) ∧ r1 p i < 60
def udM (M : g_M) (k E : Nat) (s1 : Nat → Nat) (g1 : Nat → Bool) (u v : Nat) : g_M := fun a b => if a = 156 ∧ b < u then (if b < E then nI (s1 b) else 0) else if a = 158 ∧ b < u then (if b < E then bI (g1 b) else 1) else if a = 157 ∧ b < v then M 166 (96 * k + b) else M a b
theorem udM_o (M : g_M) (k E : Nat) (s1 : Nat → Nat) (g1 : Nat → Bool) (u v : Nat) {a : Nat} (b : Nat) (h1 : a ≠ 156) (h2 : a ≠ 157) (h3 : a ≠ 158) : udM M k E s1 g1 u v a b = M a b := by
  unfold udM
  rw [if_neg (by omega), if_neg (by omega), if_neg (by omega)]
theorem ud_0 (M : g_M) (k E : Nat) (s1 : Nat → Nat) (g1 : Nat → Bool) : udM M k E s1 g1 0 0 = M := by
  funext a b
  unfold udM
  rw [if_neg (by omega), if_neg (by omega), if_neg (by omega)]
theorem ud_1 (M : g_M) (k E : Nat) (s1 : Nat → Nat) (g1 : Nat → Bool) (p v : Nat) (x1 x2 : Int32) (h1 : x1 = if p < E then nI (s1 p) else 0) (h2 : x2 = if p < E then bI (g1 p) else 1) : g_st (g_st (udM M k E s1 g1 p v) 156 p x1) 158 p x2 = udM M k E s1 g1 (p + 1) v := by
  subst h1 h2
  funext a b
  simp only [g_st_ap, udM]
  by_cases hb : b = p
  · subst hb
    (repeat' split) <;> first | rfl | (exfalso; omega)
  · (repeat' split) <;> first | rfl | (exfalso; omega)
theorem ud_2 (M : g_M) (k E : Nat) (s1 : Nat → Nat) (g1 : Nat → Bool) (p u i : Nat) : g_st (udM M k E s1 g1 u (8 * p + i)) 157 (8 * p + i) (M 166 ((12 * k + p) * 8 + i)) = udM M k E s1 g1 u (8 * p + (i + 1)) := by
  funext a b
  simp only [g_st_ap, udM]
  by_cases hb : b = 8 * p + i
  · subst hb
    rw [show (12 * k + p) * 8 + i = 96 * k + (8 * p + i) by omega]
    (repeat' split) <;> first | rfl | (exfalso; omega)
  · (repeat' split) <;> first | rfl | (exfalso; omega)
set_option maxHeartbeats 4000000 in
set_option maxRecDepth 100000 in
theorem lp_X11_undo_i {X : g_X} {Qr : Option Value → g_M → g_L → Prop} (C : Cx X cX11_undo 5 RX11 (some .int) 1) (hQ : Rx X Qr) {M : g_M} {L : g_L} {k E p : Nat} {s1 : Nat → Nat} {g1 : Nat → Bool} (hk30 : k < 30) (hp12 : p < 12) (K : wx X (udM M k E s1 g1 (p + 1) (8 * (p + 1))) L 35 [(0, .ref (X.1.1 + 149)), (1, .int (nI k)), (2, .int (nI (p + 1)))] []) : ∀ (n i : Nat), i ≤ 8 → 8 < i + n → wx X (udM M k E s1 g1 (p + 1) (8 * p + i)) L 116 [(0, .ref (X.1.1 + 149)), (1, .int (nI k)), (2, .int (nI p)), (4, .int (nI i))] [] := by
  intro n
  induction n with
  | zero =>
    intro i h1 h2
    exact absurd h2 (by omega)
  | succ n ih =>
    intro i hi0 hin
    refine wx_iload C 3 dX11_undo_116 rfl ?_
    refine wx_bipush C 8 dX11_undo_118 (by decide) ?_
    refine wx_icmp_ge C 158 dX11_undo_120 (by decide) (fun c120 => ?_) (fun c120 => ?_)
    · have hib : i = 8 := by
        rw [show (8 : Int32) = nI 8 from rfl] at c120
        exact Nat.le_antisymm hi0 ((nI_leI (by omega) (by omega)).mp c120)
      refine wx_iinc C (v := (nI (p + 1))) 2 [1, 2, 0, 3] [(0, .ref (X.1.1 + 149)), (1, .int (nI k)), (2, .int (nI (p + 1))), (4, .int (nI i))] dX11_undo_158 rfl (nI_1 _) (by decide) rfl ?_
      refine wx_goto C 35 dX11_undo_161 (by decide) ?_
      rw [hib]
      exact wx_sub [0, 1, 2] rfl K
    · have hi : i < 8 := by
        rw [show (8 : Int32) = nI 8 from rfl] at c120
        exact Nat.lt_of_not_le (fun h => c120 ((nI_leI (by omega) (by omega)).mpr h))
      refine wx_aload_n C 0 dX11_undo_123 rfl rfl ?_
      refine gf_X11_41 C dX11_undo_124 ?_
      refine wx_bipush C 8 dX11_undo_127 (by decide) ?_
      refine wx_iload_n C 2 dX11_undo_129 rfl rfl ?_
      refine wx_imul C dX11_undo_130 ?_
      refine wx_iload C 3 dX11_undo_131 rfl ?_
      refine wx_iadd C dX11_undo_133 ?_
      refine wx_aload_n C 0 dX11_undo_134 rfl rfl ?_
      refine gf_X11_69 C dX11_undo_135 ?_
      refine wx_bipush C 12 dX11_undo_138 (by decide) ?_
      refine wx_iload_n C 1 dX11_undo_140 rfl rfl ?_
      refine wx_imul C dX11_undo_141 ?_
      refine wx_iload_n C 2 dX11_undo_142 rfl rfl ?_
      refine wx_iadd C dX11_undo_143 ?_
      refine wx_bipush C 8 dX11_undo_144 (by decide) ?_
      refine wx_imul C dX11_undo_146 ?_
      refine wx_iload C 3 dX11_undo_147 rfl ?_
      refine wx_iadd C dX11_undo_149 ?_
      refine wx_iald C 166 ((12 * k + p) * 8 + i) (by decide) (fun _ _ => rfl) (by decide) dX11_undo_150 (by rw [show (12 : Int32) = nI 12 from rfl, show (8 : Int32) = nI 8 from rfl, pk_mul, nI_add, pk_mul, nI_add]) (by omega) ?_
      refine wx_iast C 157 (8 * p + i) (by decide) (fun _ _ => rfl) (by decide) dX11_undo_151 (by rw [show (8 : Int32) = nI 8 from rfl, pk_mul, nI_add]) (by omega) ?_
      refine wx_iinc C (v := (nI (i + 1))) 3 [1, 2, 3, 0] [(0, .ref (X.1.1 + 149)), (1, .int (nI k)), (2, .int (nI p)), (4, .int (nI (i + 1)))] dX11_undo_152 rfl (nI_1 _) (by decide) rfl ?_
      refine wx_goto C 116 dX11_undo_155 (by decide) ?_
      rw [udM_o M k E s1 g1 _ _ _ (by decide) (by decide) (by decide), ud_2]
      exact ih (i + 1) (by omega) (by omega)
theorem ud_rw {M : g_M} {k E e : Nat} {s1 : Nat → Nat} {r1 : Nat → Nat → Nat} {g1 : Nat → Bool} (hS : snP M k E s1 r1 g1) : ∀ p, p < e → mrw (udM M k E s1 g1 e (8 * e)) p (if p < E then s1 p else 0) (r1 p) := by
  intro p hp
  by_cases hE : p < E
  · rw [if_pos hE]
    obtain ⟨h1, h2, h3, h4⟩ := hS.2.2.2 p hE
    refine ⟨?_, h2, fun i hi => ?_⟩
    · unfold udM
      rw [if_pos ⟨rfl, hp⟩, if_pos hE]
    · refine ⟨?_, (h4 i hi).2⟩
      rw [← (h4 i hi).1]
      unfold udM
      rw [if_neg (by omega), if_neg (by omega), if_pos ⟨rfl, by omega⟩, show 96 * k + (8 * p + i) = (12 * k + p) * 8 + i by omega]
  · rw [if_neg hE]
    refine ⟨?_, by omega, fun i hi => by omega⟩
    unfold udM
    rw [if_pos ⟨rfl, hp⟩, if_neg hE]
    rfl
set_option maxHeartbeats 4000000 in
set_option maxRecDepth 100000 in
theorem lp_X11_undo {X : g_X} {Qr : Option Value → g_M → g_L → Prop} (C : Cx X cX11_undo 5 RX11 (some .int) 1) (hQ : Rx X Qr) {M : g_M} {L : g_L} {k E e n ac : Nat} {s1 : Nat → Nat} {r1 : Nat → Nat → Nat} {g1 : Nat → Bool} (hS : snP M k E s1 r1 g1) (he : M 149 1 = nI e) (h12 : e ≤ 12) (hn : M 149 0 = nI n) (h60 : n ≤ 60) (hac : M 149 26 = nI ac) (hp : Qr (some (.int (nI ac))) (oz (ow1 (udM M k E s1 g1 e (8 * e)) n) (fun p => if p < E then s1 p else 0) r1 e) L) : ∀ (kk i : Nat), i ≤ e → e < i + kk → wx X (udM M k E s1 g1 i (8 * i)) L 35 [(0, .ref (X.1.1 + 149)), (1, .int (nI k)), (2, .int (nI i))] [] := by
  intro kk
  induction kk with
  | zero =>
    intro i h1 h2
    exact absurd h2 (by omega)
  | succ kk ih =>
    intro i hi0 hin
    have hE : udM M k E s1 g1 i (8 * i) 149 1 = nI e := by rw [udM_o _ _ _ _ _ _ _ _ (by decide) (by decide) (by decide)]; exact he
    have hE2 : udM M k E s1 g1 i (8 * i) 164 k = nI E := by rw [udM_o _ _ _ _ _ _ _ _ (by decide) (by decide) (by decide)]; exact hS.2.1
    have hk30 := hS.1
    have hE12 := hS.2.2.1
    refine wx_iload_n C 2 dX11_undo_35 rfl rfl ?_
    refine wx_aload_n C 0 dX11_undo_36 rfl rfl ?_
    refine gf_X11_82 C dX11_undo_37 ?_
    refine wx_icmp_ge C 164 dX11_undo_40 (by decide) (fun c40 => ?_) (fun c40 => ?_)
    · have hib : i = e := by
        rw [hE] at c40
        exact Nat.le_antisymm hi0 ((nI_leI (by omega) (by omega)).mp c40)
      rw [hib]
      refine wx_aload_n C 0 dX11_undo_164 rfl rfl ?_
      refine ca_X11_172 C (rest := []) (t_X11_own X.1 (udM M k E s1 g1 e (8 * e)) L (n := n) (e := e) (sz := fun p => if p < E then s1 p else 0) (rr := r1) (by rw [udM_o _ _ _ _ _ _ _ _ (by decide) (by decide) (by decide)]; exact hn) h60 (by rw [udM_o _ _ _ _ _ _ _ _ (by decide) (by decide) (by decide)]; exact he) h12 (ud_rw hS)) (by decide) rfl (by decide) rfl rfl (Nat.le_of_ble_eq_true rfl) dX11_undo_165 (kV fun M165 L165 q165 => ?_)
      obtain ⟨rfl, rfl⟩ := q165
      have eac : oz (ow1 (udM M k E s1 g1 e (8 * e)) n) (fun p => if p < E then s1 p else 0) r1 e 149 26 = nI ac := by rw [oz_o _ _ _ _ (by decide), ow1_o _ _ _ (by decide), udM_o _ _ _ _ _ _ _ _ (by decide) (by decide) (by decide)]; exact hac
      refine wx_aload_n C 0 dX11_undo_168 rfl rfl ?_
      refine gf_X11_85 C dX11_undo_169 ?_
      refine wx_iret C hQ dX11_undo_172 ?_
      rw [eac]
      exact hp
    · have hi : i < e := by
        rw [hE] at c40
        exact Nat.lt_of_not_le (fun h => c40 ((nI_leI (by omega) (by omega)).mpr h))
      refine wx_iload_n C 2 dX11_undo_43 rfl rfl ?_
      refine wx_aload_n C 0 dX11_undo_44 rfl rfl ?_
      refine gf_X11_63 C dX11_undo_45 ?_
      refine wx_iload_n C 1 dX11_undo_48 rfl rfl ?_
      refine wx_iald C 164 k (by decide) (fun _ _ => rfl) (by decide) dX11_undo_49 rfl (by omega) ?_
      refine wx_icmp_ge C 57 dX11_undo_50 (by decide) (fun c50 => ?_) (fun c50 => ?_)
      · have hpE : E ≤ i := by
          rw [hE2] at c50
          exact (nI_leI (by omega) (by omega)).mp c50
        refine wx_iconst C 0 dX11_undo_57 (by decide) ?_
        refine wx_istore_n C [1, 2, 3, 0] [(0, .ref (X.1.1 + 149)), (1, .int (nI k)), (2, .int (nI i)), (3, .int 0)] dX11_undo_58 rfl (by decide) rfl ?_
        refine wx_aload_n C 0 dX11_undo_59 rfl rfl ?_
        refine gf_X11_38 C dX11_undo_60 ?_
        refine wx_iload_n C 2 dX11_undo_63 rfl rfl ?_
        refine wx_iload_n C 3 dX11_undo_64 rfl rfl ?_
        refine wx_if_eq C 82 dX11_undo_65 (by decide) (fun c65 => ?_) (fun c65 => absurd c65 (by decide))
        refine wx_iconst C 0 dX11_undo_82 (by decide) ?_
        refine wx_iast C 156 i (by decide) (fun _ _ => rfl) (by decide) dX11_undo_83 rfl (by omega) ?_
        refine wx_aload_n C 0 dX11_undo_84 rfl rfl ?_
        refine gf_X11_44 C dX11_undo_85 ?_
        refine wx_iload_n C 2 dX11_undo_88 rfl rfl ?_
        refine wx_iload_n C 3 dX11_undo_89 rfl rfl ?_
        refine wx_if_eq C 107 dX11_undo_90 (by decide) (fun c90 => ?_) (fun c90 => absurd c90 (by decide))
        refine wx_iconst C 1 dX11_undo_107 (by decide) ?_
        refine wx_goto C 112 dX11_undo_108 (by decide) ?_
        refine wx_zast C 158 i (by decide) (fun _ _ => rfl) (by decide) dX11_undo_112 rfl (by omega) (by decide) ?_
        refine wx_iconst C 0 dX11_undo_113 (by decide) ?_
        refine wx_istore C [1, 2, 3, 4, 0] [(0, .ref (X.1.1 + 149)), (1, .int (nI k)), (2, .int (nI i)), (3, .int 0), (4, .int 0)] dX11_undo_114 (by decide) rfl ?_
        rw [ud_1 M k E s1 g1 i (8 * i) 0 1 (by rw [if_neg (by omega)]) (by rw [if_neg (by omega)])]
        refine wx_sub [0, 1, 2, 4] rfl ?_
        exact lp_X11_undo_i C hQ hS.1 (by omega) (ih (i + 1) (by omega) (by omega)) 9 0 (by omega) (by omega)
      · have hpE : i < E := by
          rw [hE2] at c50
          exact Nat.lt_of_not_le (fun h => c50 ((nI_leI (by omega) (by omega)).mpr h))
        have hsp := hS.2.2.2 i hpE
        refine wx_iconst C 1 dX11_undo_53 (by decide) ?_
        refine wx_goto C 58 dX11_undo_54 (by decide) ?_
        refine wx_istore_n C [1, 2, 3, 0] [(0, .ref (X.1.1 + 149)), (1, .int (nI k)), (2, .int (nI i)), (3, .int 1)] dX11_undo_58 rfl (by decide) rfl ?_
        refine wx_aload_n C 0 dX11_undo_59 rfl rfl ?_
        refine gf_X11_38 C dX11_undo_60 ?_
        refine wx_iload_n C 2 dX11_undo_63 rfl rfl ?_
        refine wx_iload_n C 3 dX11_undo_64 rfl rfl ?_
        refine wx_if_eq C 82 dX11_undo_65 (by decide) (fun c65 => absurd c65 (by decide)) (fun c65 => ?_)
        refine wx_aload_n C 0 dX11_undo_68 rfl rfl ?_
        refine gf_X11_66 C dX11_undo_69 ?_
        refine wx_bipush C 12 dX11_undo_72 (by decide) ?_
        refine wx_iload_n C 1 dX11_undo_74 rfl rfl ?_
        refine wx_imul C dX11_undo_75 ?_
        refine wx_iload_n C 2 dX11_undo_76 rfl rfl ?_
        refine wx_iadd C dX11_undo_77 ?_
        refine wx_iald C 165 (12 * k + i) (by decide) (fun _ _ => rfl) (by decide) dX11_undo_78 (by rw [show (12 : Int32) = nI 12 from rfl, pk_mul, nI_add]) (by omega) ?_
        refine wx_goto C 83 dX11_undo_79 (by decide) ?_
        refine wx_iast C 156 i (by decide) (fun _ _ => rfl) (by decide) dX11_undo_83 rfl (by omega) ?_
        refine wx_aload_n C 0 dX11_undo_84 rfl rfl ?_
        refine gf_X11_44 C dX11_undo_85 ?_
        refine wx_iload_n C 2 dX11_undo_88 rfl rfl ?_
        refine wx_iload_n C 3 dX11_undo_89 rfl rfl ?_
        refine wx_if_eq C 107 dX11_undo_90 (by decide) (fun c90 => absurd c90 (by decide)) (fun c90 => ?_)
        refine wx_aload_n C 0 dX11_undo_93 rfl rfl ?_
        refine gf_X11_72 C dX11_undo_94 ?_
        refine wx_bipush C 12 dX11_undo_97 (by decide) ?_
        refine wx_iload_n C 1 dX11_undo_99 rfl rfl ?_
        refine wx_imul C dX11_undo_100 ?_
        refine wx_iload_n C 2 dX11_undo_101 rfl rfl ?_
        refine wx_iadd C dX11_undo_102 ?_
        refine wx_zald C 167 (12 * k + i) (by decide) (fun _ _ => rfl) (by decide) dX11_undo_103 (by rw [show (12 : Int32) = nI 12 from rfl, pk_mul, nI_add]) (by omega) ?_
        have e167 : g_st (udM M k E s1 g1 i (8 * i)) 156 i (udM M k E s1 g1 i (8 * i) 165 (12 * k + i)) 167 (12 * k + i) = M 167 (12 * k + i) := by rw [g_st_ap, if_neg (by omega), udM_o _ _ _ _ _ _ _ _ (by decide) (by decide) (by decide)]
        have hb1 : ¬ g_st (udM M k E s1 g1 i (8 * i)) 156 i (udM M k E s1 g1 i (8 * i) 165 (12 * k + i)) 167 (12 * k + i) = 0 → g_st (udM M k E s1 g1 i (8 * i)) 156 i (udM M k E s1 g1 i (8 * i) 165 (12 * k + i)) 167 (12 * k + i) = 1 := fun z => by
          rw [e167, hsp.2.2.1] at z ⊢
          rw [bI_n0.mp z]; rfl
        refine wx_if_eq C 111 dX11_undo_104 (by decide) (fun c104 => ?_) (fun c104 => ?_)
        · refine wx_iconst C 0 dX11_undo_111 (by decide) ?_
          refine wx_zast C 158 i (by decide) (fun _ _ => rfl) (by decide) dX11_undo_112 rfl (by omega) (by decide) ?_
          refine wx_iconst C 0 dX11_undo_113 (by decide) ?_
          refine wx_istore C [1, 2, 3, 4, 0] [(0, .ref (X.1.1 + 149)), (1, .int (nI k)), (2, .int (nI i)), (3, .int 1), (4, .int 0)] dX11_undo_114 (by decide) rfl ?_
          rw [ud_1 M k E s1 g1 i (8 * i) (udM M k E s1 g1 i (8 * i) 165 (12 * k + i)) 0 (by rw [if_pos hpE, udM_o M k E s1 g1 _ _ _ (by decide) (by decide) (by decide)]; exact hsp.1) (by rw [if_pos hpE, ← hsp.2.2.1, ← e167]; exact c104.symm)]
          refine wx_sub [0, 1, 2, 4] rfl ?_
          exact lp_X11_undo_i C hQ hS.1 (by omega) (ih (i + 1) (by omega) (by omega)) 9 0 (by omega) (by omega)
        · refine wx_iconst C 1 dX11_undo_107 (by decide) ?_
          refine wx_goto C 112 dX11_undo_108 (by decide) ?_
          refine wx_zast C 158 i (by decide) (fun _ _ => rfl) (by decide) dX11_undo_112 rfl (by omega) (by decide) ?_
          refine wx_iconst C 0 dX11_undo_113 (by decide) ?_
          refine wx_istore C [1, 2, 3, 4, 0] [(0, .ref (X.1.1 + 149)), (1, .int (nI k)), (2, .int (nI i)), (3, .int 1), (4, .int 0)] dX11_undo_114 (by decide) rfl ?_
          rw [ud_1 M k E s1 g1 i (8 * i) (udM M k E s1 g1 i (8 * i) 165 (12 * k + i)) 1 (by rw [if_pos hpE, udM_o M k E s1 g1 _ _ _ (by decide) (by decide) (by decide)]; exact hsp.1) (by rw [if_pos hpE, ← hsp.2.2.1, ← e167]; exact (hb1 c104).symm)]
          refine wx_sub [0, 1, 2, 4] rfl ?_
          exact lp_X11_undo_i C hQ hS.1 (by omega) (ih (i + 1) (by omega) (by omega)) 9 0 (by omega) (by omega)
/-- what undo leaves -/
def unM (M : g_M) (k E e n ac : Nat) (s1 : Nat → Nat) (r1 : Nat → Nat → Nat) (g1 : Nat → Bool) : g_M := oz (ow1 (udM (g_st M 149 26 (nI ac)) k E s1 g1 e (8 * e)) n) (fun p => if p < E then s1 p else 0) r1 e
theorem snP.st {M : g_M} {k E : Nat} {s1 : Nat → Nat} {r1 : Nat → Nat → Nat} {g1 : Nat → Bool} (h : snP M k E s1 r1 g1) (x : Int32) : snP (g_st M 149 26 x) k E s1 r1 g1 := by
  have e : ∀ a b, a ≠ 149 → g_st M 149 26 x a b = M a b := fun a b z => by rw [g_st_ap, if_neg (by omega)]
  refine ⟨h.1, by rw [e _ _ (by decide)]; exact h.2.1, h.2.2.1, fun p hp => ?_⟩
  obtain ⟨h1, h2, h3, h4⟩ := h.2.2.2 p hp
  rw [e _ _ (by decide), e _ _ (by decide)]
  refine ⟨h1, h2, h3, fun i hi => ?_⟩
  rw [e _ _ (by decide)]
  exact h4 i hi
set_option maxHeartbeats 4000000 in
set_option maxRecDepth 100000 in
theorem t_X11_undo (G : g_G) (M : g_M) (L : g_L) {n e fa ac : Nat} {sz : Nat → Nat} {rr : Nat → Nat → Nat} {go : Nat → Bool} (hM : mI M n e fa ac sz rr go) {E : Nat} {s1 : Nat → Nat} {r1 : Nat → Nat → Nat} {g1 : Nat → Bool} (hS : 0 < ac → snP M ((fa + (ac - 1)) % 30) E s1 r1 g1) : mt G yX11_undo (Cond.code yX11_undo cX11_undo 5 (some .int)) 1 [.ref (G.1 + 149)] M L (qI fun v M' L' => L = L' ∧ ((ac = 0 ∧ v = -3 ∧ M = M') ∨ (0 < ac ∧ v = nI (ac - 1) ∧ M' = unM M ((fa + (ac - 1)) % 30) E e n (ac - 1) s1 r1 g1))) := by
  refine mt_of (by decide) rfl (Nat.le_of_ble_eq_true rfl) [(0, .ref (G.1 + 149))] rfl (fun X hG C hQ => ?_)
  subst hG
  refine wx_aload_n C 0 dX11_undo_0 rfl rfl ?_
  refine gf_X11_85 C dX11_undo_1 ?_
  refine wx_if_ne C 10 dX11_undo_4 (by decide) (fun c4 => ?_) (fun c4 => ?_)
  · have h0 : 0 < ac := Nat.pos_of_ne_zero (fun z => c4 (by rw [hM.hac, z]; rfl))
    have ha := hM.ac30
    have hf := hM.fa30
    have e26 : M 149 26 - 1 = nI (ac - 1) := by rw [hM.hac]; exact pk_sub (b := 1) h0
    refine wx_aload_n C 0 dX11_undo_10 rfl rfl ?_
    refine wx_dup C dX11_undo_11 rfl ?_
    refine gf_X11_85 C dX11_undo_12 ?_
    refine wx_iconst C 1 dX11_undo_15 (by decide) ?_
    refine wx_isub C dX11_undo_16 ?_
    refine pf_X11_85 C dX11_undo_17 ?_
    refine wx_aload_n C 0 dX11_undo_20 rfl rfl ?_
    refine gf_X11_169 C dX11_undo_21 ?_
    refine wx_aload_n C 0 dX11_undo_24 rfl rfl ?_
    refine gf_X11_85 C dX11_undo_25 ?_
    refine wx_iadd C dX11_undo_28 ?_
    refine wx_bipush C 30 dX11_undo_29 (by decide) ?_
    refine wx_irem C dX11_undo_31 (by decide) ?_
    refine wx_nmi (fun kx hkx => ?_)
    refine wx_istore_n C [1, 0] [(0, .ref (X.1.1 + 149)), (1, .int kx)] dX11_undo_32 rfl (by decide) rfl ?_
    refine wx_iconst C 0 dX11_undo_33 (by decide) ?_
    refine wx_istore_n C [1, 2, 0] [(0, .ref (X.1.1 + 149)), (1, .int kx), (2, .int 0)] dX11_undo_34 rfl (by decide) rfl ?_
    have ek : kx = nI ((fa + (ac - 1)) % 30) := by
      rw [hkx, e26, g_st_ap, if_neg (by decide), g_st_ap, if_pos ⟨rfl, rfl⟩, hM.hfa, nI_add, show (30 : Int32) = nI 30 from rfl, pk_rem (by omega) (by omega) (by omega)]
    rw [ek, e26]
    have h := lp_X11_undo (L := L) C hQ ((hS h0).st (nI (ac - 1))) (e := e) (n := n) (ac := ac - 1) (by rw [g_st_ap, if_neg (by decide)]; exact hM.he) hM.e12 (by rw [g_st_ap, if_neg (by decide)]; exact hM.hn) hM.n60 (by rw [g_st_ap, if_pos ⟨rfl, rfl⟩]) ⟨_, rfl, rfl, Or.inr ⟨h0, rfl, rfl⟩⟩ (e + 1) 0 (by omega) (by omega)
    rw [ud_0] at h
    exact h
  · refine wx_bipush C (-3) dX11_undo_7 (by decide) ?_
    refine wx_iret C hQ dX11_undo_9 ?_
    exact ⟨_, rfl, rfl, Or.inl ⟨nI_inj (by have := hM.ac30; omega) (by decide) (hM.hac.symm.trans c4), rfl, rfl⟩⟩
