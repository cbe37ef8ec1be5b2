/-! ===== the reference: the pairs ===== -/
def mPL (M : g_M) (n : Nat) : List (Nat × Nat) := bl (prG (M 150) (msnd M) (bl (mB M) n n)) (bl (mB M) n n).length (bl (mB M) n n).length
/-- bits kept, and pairs found so far -/
def pfM (M N : g_M) (B l : List (Nat × Nat)) : Prop := bfO M N B ∧ N 149 25 = nI l.length ∧ ∀ q e, l[q]? = some e → N 162 q = nI e.1 ∧ N 163 q = nI e.2
theorem pfM.mv {M N K : g_M} {B l : List (Nat × Nat)} (h : pfM M N B l) (h2 : ∀ a b, ¬ (a = 149 ∧ (b = 15 ∨ b = 16 ∨ b = 17)) → a ≠ 159 → K a b = N a b) : pfM M K B l := by
  obtain ⟨⟨h1, h3, h4⟩, h5, h6⟩ := h
  refine ⟨⟨fun a b x y => ?_, ?_, fun q e he => ?_⟩, ?_, fun q e he => ?_⟩
  · rw [h2 a b (by omega) (by omega)]; exact h1 a b x y
  · rw [h2 149 22 (by decide) (by decide)]; exact h3
  · rw [h2 160 q (by omega) (by decide), h2 161 q (by omega) (by decide)]; exact h4 q e he
  · rw [h2 149 25 (by decide) (by decide)]; exact h5
  · rw [h2 162 q (by omega) (by decide), h2 163 q (by omega) (by decide)]; exact h6 q e he
theorem pfM.add {M N : g_M} {B l : List (Nat × Nat)} (h : pfM M N B l) (a b : Nat) : pfM M (g_st (g_st (g_st N 162 l.length (nI a)) 163 l.length (nI b)) 149 25 (nI (l.length + 1))) B (l ++ [(a, b)]) := by
  obtain ⟨⟨h1, h7, h4⟩, h5, h3⟩ := h
  refine ⟨⟨fun x y u v => ?_, ?_, fun q e he => ?_⟩, ?_, fun q e he => ?_⟩
  · rw [g_st_ap, if_neg (by omega), g_st_ap, if_neg (by omega), g_st_ap, if_neg (by omega)]; exact h1 x y u v
  · rw [g_st_ap, if_neg (by omega), g_st_ap, if_neg (by omega), g_st_ap, if_neg (by omega)]; exact h7
  · rw [g_st_ap, if_neg (by omega), g_st_ap, if_neg (by omega), g_st_ap, if_neg (by omega), g_st_ap, if_neg (by omega), g_st_ap, if_neg (by omega), g_st_ap, if_neg (by omega)]; exact h4 q e he
  · rw [g_st_ap, if_pos ⟨rfl, rfl⟩]; simp
  · have e10 : g_st (g_st (g_st N 162 l.length (nI a)) 163 l.length (nI b)) 149 25 (nI (l.length + 1)) 162 q = if q = l.length then nI a else N 162 q := by simp [g_st_ap]
    have e11 : g_st (g_st (g_st N 162 l.length (nI a)) 163 l.length (nI b)) 149 25 (nI (l.length + 1)) 163 q = if q = l.length then nI b else N 163 q := by simp [g_st_ap]
    rw [e10, e11]
    by_cases hq : q = l.length
    · subst hq
      rw [List.getElem?_append_right (Nat.le_refl _), Nat.sub_self] at he
      cases he
      exact ⟨by rw [if_pos rfl], by rw [if_pos rfl]⟩
    · have hl : q < l.length := by
        have := (List.getElem?_eq_some_iff.mp he).1
        simp at this
        omega
      rw [List.getElem?_append_left hl] at he
      rw [if_neg hq, if_neg hq]
      exact h3 q e he
/-- four dots to look at -/
def k4 (N : g_M) (a b c d : Int32) : g_M := fun x y => if x = 149 ∧ y = 15 then 4 else if x = 159 ∧ y = 0 then a else if x = 159 ∧ y = 1 then b else if x = 159 ∧ y = 2 then c else if x = 159 ∧ y = 3 then d else N x y
def k0 (N : g_M) : g_M := g_st N 149 15 0
def k1 (N : g_M) (a : Int32) : g_M := g_st (g_st (k0 N) 159 0 a) 149 15 (nI 1)
def k2 (N : g_M) (a b : Int32) : g_M := g_st (g_st (k1 N a) 159 1 b) 149 15 (nI 2)
def k3 (N : g_M) (a b c : Int32) : g_M := g_st (g_st (k2 N a b) 159 2 c) 149 15 (nI 3)
theorem k4_eq (N : g_M) (a b c d : Int32) : g_st (g_st (k3 N a b c) 159 3 d) 149 15 (nI 4) = k4 N a b c d := by
  funext x y
  simp only [k3, k2, k1, k0, k4, g_st_ap]
  (repeat' split) <;> first | rfl | (exfalso; omega)
theorem k0_o (N : g_M) (x y : Nat) (h1 : ¬ (x = 149 ∧ y = 15)) : k0 N x y = N x y := by
  unfold k0; rw [g_st_ap, if_neg h1]
theorem k1_o (N : g_M) (a : Int32) (x y : Nat) (h1 : ¬ (x = 149 ∧ y = 15)) (h2 : x ≠ 159) : k1 N a x y = N x y := by
  unfold k1; rw [g_st_ap, if_neg h1, g_st_ap, if_neg (by omega), k0_o N x y h1]
theorem k2_o (N : g_M) (a b : Int32) (x y : Nat) (h1 : ¬ (x = 149 ∧ y = 15)) (h2 : x ≠ 159) : k2 N a b x y = N x y := by
  unfold k2; rw [g_st_ap, if_neg h1, g_st_ap, if_neg (by omega), k1_o N a x y h1 h2]
theorem k3_o (N : g_M) (a b c : Int32) (x y : Nat) (h1 : ¬ (x = 149 ∧ y = 15)) (h2 : x ≠ 159) : k3 N a b c x y = N x y := by
  unfold k3; rw [g_st_ap, if_neg h1, g_st_ap, if_neg (by omega), k2_o N a b x y h1 h2]
theorem k4_o (N : g_M) (a b c d : Int32) (x y : Nat) (h1 : ¬ (x = 149 ∧ y = 15)) (h2 : x ≠ 159) : k4 N a b c d x y = N x y := by
  unfold k4; rw [if_neg h1, if_neg (by omega), if_neg (by omega), if_neg (by omega), if_neg (by omega)]
theorem frM_k4 (N : g_M) (a b c d : Int32) : frM N (k4 N a b c d) := fun x y h1 h2 => k4_o N a b c d x y (by omega) (by omega)
theorem k4_sok {N : g_M} {B : List (Nat × Nat)} {a b : Nat} {x1 x2 x3 x4 : Int32} (h1 : x1 = nI (r4 B a b 0)) (h2 : x2 = nI (r4 B a b 1)) (h3 : x3 = nI (r4 B a b 2)) (h4 : x4 = nI (r4 B a b 3)) (h : ∀ i, r4 B a b i < 60) : sok (k4 N x1 x2 x3 x4) 4 (r4 B a b) := by
  refine ⟨by unfold k4; rw [if_pos ⟨rfl, rfl⟩]; rfl, by decide, fun q hq => ⟨?_, h q⟩⟩
  rcases (show q = 0 ∨ q = 1 ∨ q = 2 ∨ q = 3 by omega) with rfl | rfl | rfl | rfl
  · exact h1
  · exact h2
  · exact h3
  · exact h4
theorem r4_lt {B : List (Nat × Nat)} {a b n : Nat} (hB : ∀ e ∈ B, e.1 < n ∧ e.2 < n) (hn : n ≤ 60) (ha : a < B.length) (hb : b < B.length) (i : Nat) : r4 B a b i < 60 := by
  have e1 := hB _ (List.mem_of_getElem? (getD_some ha))
  have e2 := hB _ (List.mem_of_getElem? (getD_some hb))
  unfold r4
  (repeat' split) <;> omega
set_option maxHeartbeats 4000000 in
set_option maxRecDepth 100000 in
theorem lp_X11_findPairs_i {X : g_X} {Qr : Option Value → g_M → g_L → Prop} (C : Cx X cX11_findPairs 3 RX11 (some .boolean) 4) (hQ : Rx X Qr) {M : g_M} {L : g_L} {B0 : List (Nat × Nat)} {Q0 : Nat → Nat → Bool} {n m a : Nat} (hQ0 : Q0 = prG (M 150) (msnd M) B0) (hm : m = B0.length) (hb60 : ∀ e ∈ B0, e.1 < n ∧ e.2 < n) (h60 : n ≤ 60) (h40 : m ≤ 40) (hg : 1 ≤ (M 149 3).toInt) (ha : a < m) (K : ∀ N, pfM M N B0 (bl Q0 m (a + 1)) → wx X N L 22 [(0, .ref (X.1.1 + 149)), (1, .int (nI (a + 1)))] []) : ∀ (kk i : Nat), i ≤ m → m < i + kk → a < i → ∀ (N : g_M), pfM M N B0 (bl Q0 m a ++ rowl Q0 a i) → wx X N L 34 [(0, .ref (X.1.1 + 149)), (1, .int (nI a)), (2, .int (nI i))] [] := by
  intro kk
  induction kk with
  | zero =>
    intro i h1 h2 _
    exact absurd h2 (by omega)
  | succ kk ih =>
    intro i hi0 hin hai N hN
    have h98 : N 149 22 = nI m := by rw [hm]; exact hN.1.2.1
    have hBa := hN.1.2.2 a _ (getD_some (hm ▸ ha))
    have e150 : N 150 = M 150 := hN.1.1.o 150 (by decide) (by decide)
    have hea := hb60 _ (List.mem_of_getElem? (getD_some (hm ▸ ha)))
    refine wx_iload_n C 2 dX11_findPairs_34 rfl rfl ?_
    refine wx_aload_n C 0 dX11_findPairs_35 rfl rfl ?_
    refine gf_X11_150 C dX11_findPairs_36 ?_
    refine wx_icmp_ge C 159 dX11_findPairs_39 (by decide) (fun c39 => ?_) (fun c39 => ?_)
    · have hib : i = m := by
        rw [h98] at c39
        exact Nat.le_antisymm hi0 ((nI_leI (by omega) (by omega)).mp c39)
      refine wx_iinc C (v := (nI (a + 1))) 1 [1, 0, 2] [(0, .ref (X.1.1 + 149)), (1, .int (nI (a + 1))), (2, .int (nI i))] dX11_findPairs_159 rfl (nI_1 _) (by decide) rfl ?_
      refine wx_goto C 22 dX11_findPairs_162 (by decide) ?_
      exact wx_sub [0, 1] rfl (K N (by rw [bl, ← hib]; rw [hib]; rw [hib] at hN; exact hN))
    · have hi : i < m := by
        rw [h98] at c39
        exact Nat.lt_of_not_le (fun h => c39 ((nI_leI (by omega) (by omega)).mpr h))
      have hBi := hN.1.2.2 i _ (getD_some (hm ▸ hi))
      have hei := hb60 _ (List.mem_of_getElem? (getD_some (hm ▸ hi)))
      have hr4 : ∀ j, r4 B0 a i j < 60 := r4_lt hb60 h60 (hm ▸ ha) (hm ▸ hi)
      have hk4 : sok (k4 N (nI (B0.getD a (0, 0)).1) (nI (B0.getD a (0, 0)).2) (nI (B0.getD i (0, 0)).1) (nI (B0.getD i (0, 0)).2)) 4 (r4 B0 a i) := k4_sok rfl rfl rfl rfl hr4
      have fr4 := frM_k4 N (nI (B0.getD a (0, 0)).1) (nI (B0.getD a (0, 0)).2) (nI (B0.getD i (0, 0)).1) (nI (B0.getD i (0, 0)).2)
      have hg4 := (hN.1.1.trans fr4).g hg
      have eS4 := (hN.1.1.trans fr4).eS
      refine wx_aload_n C 0 dX11_findPairs_42 rfl rfl ?_
      refine wx_aload_n C 0 dX11_findPairs_43 rfl rfl ?_
      refine gf_X11_51 C dX11_findPairs_44 ?_
      refine wx_iload_n C 1 dX11_findPairs_47 rfl rfl ?_
      refine wx_iald C 160 a (by decide) (fun _ _ => rfl) (by decide) dX11_findPairs_48 rfl (by omega) ?_
      refine ca_X11_92 C (rest := []) (t_X11_night X.1 N L (e := (B0.getD a (0, 0)).1) hBa.1 (by omega)) (by decide) rfl (by decide) rfl rfl (Nat.le_of_ble_eq_true rfl) dX11_findPairs_49 (kI fun r49 M49 L49 q49 => ?_)
      obtain ⟨rfl, rfl, rfl⟩ := q49
      refine wx_aload_n C 0 dX11_findPairs_52 rfl rfl ?_
      refine wx_aload_n C 0 dX11_findPairs_53 rfl rfl ?_
      refine gf_X11_51 C dX11_findPairs_54 ?_
      refine wx_iload_n C 2 dX11_findPairs_57 rfl rfl ?_
      refine wx_iald C 160 i (by decide) (fun _ _ => rfl) (by decide) dX11_findPairs_58 rfl (by omega) ?_
      refine ca_X11_92 C (rest := [.int (N 150 (B0.getD a (0, 0)).1 / 24)]) (t_X11_night X.1 N L (e := (B0.getD i (0, 0)).1) hBi.1 (by omega)) (by decide) rfl (by decide) rfl rfl (Nat.le_of_ble_eq_true rfl) dX11_findPairs_59 (kI fun r59 M59 L59 q59 => ?_)
      obtain ⟨rfl, rfl, rfl⟩ := q59
      refine wx_icmp_ne C 68 dX11_findPairs_62 (by decide) (fun c62 => ?_) (fun c62 => ?_)
      · refine wx_aload_n C 0 dX11_findPairs_68 rfl rfl ?_
        refine wx_iconst C 0 dX11_findPairs_69 (by decide) ?_
        refine pf_X11_96 C dX11_findPairs_70 ?_
        refine wx_aload_n C 0 dX11_findPairs_73 rfl rfl ?_
        refine wx_aload_n C 0 dX11_findPairs_74 rfl rfl ?_
        refine gf_X11_51 C dX11_findPairs_75 ?_
        refine wx_iload_n C 1 dX11_findPairs_78 rfl rfl ?_
        refine wx_iald C 160 a (by decide) (fun _ _ => rfl) (by decide) dX11_findPairs_79 rfl (by omega) ?_
        refine ca_X11_163 C (rest := []) (t_X11_adds X.1 (k0 N) L (l := 0) (by unfold k0; rw [g_st_ap, if_pos ⟨rfl, rfl⟩]; rfl) (by decide) _) (by decide) rfl (by decide) rfl rfl (Nat.le_of_ble_eq_true rfl) dX11_findPairs_80 (kV fun M80 L80 q80 => ?_)
        obtain ⟨rfl, rfl⟩ := q80
        rw [show g_st N 149 15 0 160 a = (nI (B0.getD a (0, 0)).1) from ((k0_o N 160 a (by omega)).trans hBa.1)]
        change wx X (k1 N (nI (B0.getD a (0, 0)).1)) L _ _ _
        refine wx_aload_n C 0 dX11_findPairs_83 rfl rfl ?_
        refine wx_aload_n C 0 dX11_findPairs_84 rfl rfl ?_
        refine gf_X11_54 C dX11_findPairs_85 ?_
        refine wx_iload_n C 1 dX11_findPairs_88 rfl rfl ?_
        refine wx_iald C 161 a (by decide) (fun _ _ => rfl) (by decide) dX11_findPairs_89 rfl (by omega) ?_
        refine ca_X11_163 C (rest := []) (t_X11_adds X.1 (k1 N (nI (B0.getD a (0, 0)).1)) L (l := 1) (by unfold k1; rw [g_st_ap, if_pos ⟨rfl, rfl⟩]) (by decide) _) (by decide) rfl (by decide) rfl rfl (Nat.le_of_ble_eq_true rfl) dX11_findPairs_90 (kV fun M90 L90 q90 => ?_)
        obtain ⟨rfl, rfl⟩ := q90
        rw [show k1 N (nI (B0.getD a (0, 0)).1) 161 a = (nI (B0.getD a (0, 0)).2) from ((k1_o N _ 161 a (by omega) (by decide)).trans hBa.2)]
        change wx X (k2 N (nI (B0.getD a (0, 0)).1) (nI (B0.getD a (0, 0)).2)) L _ _ _
        refine wx_aload_n C 0 dX11_findPairs_93 rfl rfl ?_
        refine wx_aload_n C 0 dX11_findPairs_94 rfl rfl ?_
        refine gf_X11_51 C dX11_findPairs_95 ?_
        refine wx_iload_n C 2 dX11_findPairs_98 rfl rfl ?_
        refine wx_iald C 160 i (by decide) (fun _ _ => rfl) (by decide) dX11_findPairs_99 rfl (by omega) ?_
        refine ca_X11_163 C (rest := []) (t_X11_adds X.1 (k2 N (nI (B0.getD a (0, 0)).1) (nI (B0.getD a (0, 0)).2)) L (l := 2) (by unfold k2; rw [g_st_ap, if_pos ⟨rfl, rfl⟩]) (by decide) _) (by decide) rfl (by decide) rfl rfl (Nat.le_of_ble_eq_true rfl) dX11_findPairs_100 (kV fun M100 L100 q100 => ?_)
        obtain ⟨rfl, rfl⟩ := q100
        rw [show k2 N (nI (B0.getD a (0, 0)).1) (nI (B0.getD a (0, 0)).2) 160 i = (nI (B0.getD i (0, 0)).1) from ((k2_o N _ _ 160 i (by omega) (by decide)).trans hBi.1)]
        change wx X (k3 N (nI (B0.getD a (0, 0)).1) (nI (B0.getD a (0, 0)).2) (nI (B0.getD i (0, 0)).1)) L _ _ _
        refine wx_aload_n C 0 dX11_findPairs_103 rfl rfl ?_
        refine wx_aload_n C 0 dX11_findPairs_104 rfl rfl ?_
        refine gf_X11_54 C dX11_findPairs_105 ?_
        refine wx_iload_n C 2 dX11_findPairs_108 rfl rfl ?_
        refine wx_iald C 161 i (by decide) (fun _ _ => rfl) (by decide) dX11_findPairs_109 rfl (by omega) ?_
        refine ca_X11_163 C (rest := []) (t_X11_adds X.1 (k3 N (nI (B0.getD a (0, 0)).1) (nI (B0.getD a (0, 0)).2) (nI (B0.getD i (0, 0)).1)) L (l := 3) (by unfold k3; rw [g_st_ap, if_pos ⟨rfl, rfl⟩]) (by decide) _) (by decide) rfl (by decide) rfl rfl (Nat.le_of_ble_eq_true rfl) dX11_findPairs_110 (kV fun M110 L110 q110 => ?_)
        obtain ⟨rfl, rfl⟩ := q110
        rw [show k3 N (nI (B0.getD a (0, 0)).1) (nI (B0.getD a (0, 0)).2) (nI (B0.getD i (0, 0)).1) 161 i = (nI (B0.getD i (0, 0)).2) from ((k3_o N _ _ _ 161 i (by omega) (by decide)).trans hBi.2), k4_eq]
        refine wx_aload_n C 0 dX11_findPairs_113 rfl rfl ?_
        refine ca_X11_131 C (rest := []) (t_heap X.1 (k4 N (nI (B0.getD a (0, 0)).1) (nI (B0.getD a (0, 0)).2) (nI (B0.getD i (0, 0)).1) (nI (B0.getD i (0, 0)).2)) L hk4 hg4) (by decide) rfl (by decide) rfl rfl (Nat.le_of_ble_eq_true rfl) dX11_findPairs_114 (kI fun r114 M114 L114 q114 => ?_)
        obtain ⟨rfl, rfl, a114, b114, rfl⟩ := q114
        rw [eS4]
        have hN4 : pfM M (mn (k4 N (nI (B0.getD a (0, 0)).1) (nI (B0.getD a (0, 0)).2) (nI (B0.getD i (0, 0)).1) (nI (B0.getD i (0, 0)).2)) a114 b114) B0 (bl Q0 m a ++ rowl Q0 a i) := hN.mv (fun x y h1 h2 => by rw [mn_ap, if_neg (by omega), if_neg (by omega)]; exact k4_o N _ _ _ _ x y (by omega) h2)
        have hlen4 : (mn (k4 N (nI (B0.getD a (0, 0)).1) (nI (B0.getD a (0, 0)).2) (nI (B0.getD i (0, 0)).1) (nI (B0.getD i (0, 0)).2)) a114 b114) 149 25 = nI ((bl Q0 m a).length + (rowl Q0 a i).length) := by have := hN4.2.1; rw [List.length_append] at this; exact this
        refine wx_if_ne C 123 dX11_findPairs_117 (by decide) (fun c117 => ?_) (fun c117 => ?_)
        · have hf : Q0 a i = true := by
            rw [hQ0]
            unfold prG
            rw [bI_n0.mp c117, decide_eq_true hai, decide_eq_true (show ¬ M 150 (B0.getD a (0, 0)).1 / 24 = M 150 (B0.getD i (0, 0)).1 / 24 from (by rw [e150] at c62; exact c62))]
            rfl
          have hlt := bl_lt ha hi hf
          have htri := bl_tri (P := Q0) (fun x y => by rw [hQ0]; exact prG_lt x y) m m
          have h780 := tri_780 m (by omega)
          refine wx_aload_n C 0 dX11_findPairs_123 rfl rfl ?_
          refine gf_X11_57 C dX11_findPairs_124 ?_
          refine wx_aload_n C 0 dX11_findPairs_127 rfl rfl ?_
          refine gf_X11_160 C dX11_findPairs_128 ?_
          refine wx_iload_n C 1 dX11_findPairs_131 rfl rfl ?_
          refine wx_iast C 162 ((bl Q0 m a).length + (rowl Q0 a i).length) (by decide) (fun _ _ => rfl) (by decide) dX11_findPairs_132 hlen4 (by omega) ?_
          refine wx_aload_n C 0 dX11_findPairs_133 rfl rfl ?_
          refine gf_X11_60 C dX11_findPairs_134 ?_
          refine wx_aload_n C 0 dX11_findPairs_137 rfl rfl ?_
          refine gf_X11_160 C dX11_findPairs_138 ?_
          refine wx_iload_n C 2 dX11_findPairs_141 rfl rfl ?_
          refine wx_iast C 163 ((bl Q0 m a).length + (rowl Q0 a i).length) (by decide) (fun _ _ => rfl) (by decide) dX11_findPairs_142 (by rw [g_st_ap, if_neg (by omega)]; exact hlen4) (by omega) ?_
          refine wx_aload_n C 0 dX11_findPairs_143 rfl rfl ?_
          refine wx_dup C dX11_findPairs_144 rfl ?_
          refine gf_X11_160 C dX11_findPairs_145 ?_
          refine wx_iconst C 1 dX11_findPairs_148 (by decide) ?_
          refine wx_iadd C dX11_findPairs_149 ?_
          refine pf_X11_160 C dX11_findPairs_150 ?_
          refine wx_iinc C (v := (nI (i + 1))) 2 [1, 2, 0] [(0, .ref (X.1.1 + 149)), (1, .int (nI a)), (2, .int (nI (i + 1)))] dX11_findPairs_153 rfl (nI_1 _) (by decide) rfl ?_
          refine wx_goto C 34 dX11_findPairs_156 (by decide) ?_
          refine ih (i + 1) (by omega) (by omega) (by omega) _ ?_
          rw [rowl, if_pos hf, ← List.append_assoc]
          have hz := hN4.add a i
          rw [List.length_append] at hz
          have ez : g_st (g_st (mn (k4 N (nI (B0.getD a (0, 0)).1) (nI (B0.getD a (0, 0)).2) (nI (B0.getD i (0, 0)).1) (nI (B0.getD i (0, 0)).2)) a114 b114) 162 ((bl Q0 m a).length + (rowl Q0 a i).length) (nI a)) 163 ((bl Q0 m a).length + (rowl Q0 a i).length) (nI i) 149 25 + 1 = nI (((bl Q0 m a).length + (rowl Q0 a i).length) + 1) := by rw [g_st_ap, if_neg (by omega), g_st_ap, if_neg (by omega), hlen4, nI_1]
          rw [ez]
          exact hz
        · refine wx_goto C 153 dX11_findPairs_120 (by decide) ?_
          refine wx_iinc C (v := (nI (i + 1))) 2 [1, 2, 0] [(0, .ref (X.1.1 + 149)), (1, .int (nI a)), (2, .int (nI (i + 1)))] dX11_findPairs_153 rfl (nI_1 _) (by decide) rfl ?_
          refine wx_goto C 34 dX11_findPairs_156 (by decide) ?_
          have hf : Q0 a i = false := by
            rw [hQ0]
            unfold prG
            rw [bI_0.mp c117, Bool.and_false, Bool.and_false]
          refine ih (i + 1) (by omega) (by omega) (by omega) _ ?_
          rw [rowl, if_neg (by rw [hf]; decide), List.append_nil]
          exact hN4
      · refine wx_goto C 153 dX11_findPairs_65 (by decide) ?_
        refine wx_iinc C (v := (nI (i + 1))) 2 [1, 2, 0] [(0, .ref (X.1.1 + 149)), (1, .int (nI a)), (2, .int (nI (i + 1)))] dX11_findPairs_153 rfl (nI_1 _) (by decide) rfl ?_
        refine wx_goto C 34 dX11_findPairs_156 (by decide) ?_
        have hf : Q0 a i = false := by
          rw [hQ0]
          unfold prG
          rw [decide_eq_false (show ¬ ¬ M 150 (B0.getD a (0, 0)).1 / 24 = M 150 (B0.getD i (0, 0)).1 / 24 from fun z => z (by rw [e150] at c62; exact c62)), Bool.false_and, Bool.and_false]
        refine ih (i + 1) (by omega) (by omega) (by omega) _ ?_
        rw [rowl, if_neg (by rw [hf]; decide), List.append_nil]
        exact hN
set_option maxHeartbeats 4000000 in
set_option maxRecDepth 100000 in
theorem lp_X11_findPairs {X : g_X} {Qr : Option Value → g_M → g_L → Prop} (C : Cx X cX11_findPairs 3 RX11 (some .boolean) 4) (hQ : Rx X Qr) {M : g_M} {L : g_L} {B0 : List (Nat × Nat)} {Q0 : Nat → Nat → Bool} {n m : Nat} (hQ0 : Q0 = prG (M 150) (msnd M) B0) (hm : m = B0.length) (hb60 : ∀ e ∈ B0, e.1 < n ∧ e.2 < n) (h60 : n ≤ 60) (h40 : m ≤ 40) (hg : 1 ≤ (M 149 3).toInt) (hp : ∀ N, pfM M N B0 (bl Q0 m m) → Qr (some (.int 1)) N L) : ∀ (kk i : Nat), i ≤ m → m < i + kk → ∀ (N : g_M), pfM M N B0 (bl Q0 m i) → wx X N L 22 [(0, .ref (X.1.1 + 149)), (1, .int (nI i))] [] := by
  intro kk
  induction kk with
  | zero =>
    intro i h1 h2
    exact absurd h2 (by omega)
  | succ kk ih =>
    intro i hi0 hin N hN
    have h98 : N 149 22 = nI m := by rw [hm]; exact hN.1.2.1
    refine wx_iload_n C 1 dX11_findPairs_22 rfl rfl ?_
    refine wx_aload_n C 0 dX11_findPairs_23 rfl rfl ?_
    refine gf_X11_150 C dX11_findPairs_24 ?_
    refine wx_icmp_ge C 165 dX11_findPairs_27 (by decide) (fun c27 => ?_) (fun c27 => ?_)
    · have hib : i = m := by
        rw [h98] at c27
        exact Nat.le_antisymm hi0 ((nI_leI (by omega) (by omega)).mp c27)
      refine wx_iconst C 1 dX11_findPairs_165 (by decide) ?_
      refine wx_zret C hQ dX11_findPairs_166 (by decide) ?_
      rw [hib] at hN
      exact hp N hN
    · have hi : i < m := by
        rw [h98] at c27
        exact Nat.lt_of_not_le (fun h => c27 ((nI_leI (by omega) (by omega)).mpr h))
      refine wx_iload_n C 1 dX11_findPairs_30 rfl rfl ?_
      refine wx_iconst C 1 dX11_findPairs_31 (by decide) ?_
      refine wx_iadd C dX11_findPairs_32 ?_
      refine wx_istore_n C [1, 2, 0] [(0, .ref (X.1.1 + 149)), (1, .int (nI i)), (2, .int ((nI i) + 1))] dX11_findPairs_33 rfl (by decide) rfl ?_
      rw [nI_1]
      exact lp_X11_findPairs_i C hQ hQ0 hm hb60 h60 h40 hg hi (fun N2 h2 => ih (i + 1) (by omega) (by omega) N2 h2) (m + 1) (i + 1) (by omega) (by omega) (by omega) N (by rw [rowl_nil (fun x y => by rw [hQ0]; exact prG_lt x y), List.append_nil]; exact hN)
/-- what findPairs leaves -/
def fpP (M : g_M) (L : g_L) (n : Nat) : Int32 → g_M → g_L → Prop := fun v M' L' => L = L' ∧ frM M M' ∧ ((40 < (bl (mB M) n n).length ∧ v = 0) ∨ ((bl (mB M) n n).length ≤ 40 ∧ v = 1 ∧ pfM M M' (bl (mB M) n n) (mPL M n)))
set_option maxHeartbeats 4000000 in
set_option maxRecDepth 100000 in
theorem t_X11_findPairs (G : g_G) (M : g_M) (L : g_L) {n e fa ac : Nat} {sz : Nat → Nat} {rr : Nat → Nat → Nat} {go : Nat → Bool} (hM : mI M n e fa ac sz rr go) : mt G yX11_findPairs (Cond.code yX11_findPairs cX11_findPairs 3 (some .boolean)) 4 [.ref (G.1 + 149)] M L (qI (fpP M L n)) := by
  refine mt_of (by decide) rfl (Nat.le_of_ble_eq_true rfl) [(0, .ref (G.1 + 149))] rfl (fun X hG C hQ => ?_)
  subst hG
  refine wx_aload_n C 0 dX11_findPairs_0 rfl rfl ?_
  refine ca_X11_157 C (rest := []) (t_X11_findBits X.1 M L hM.hn hM.n60 (fun d => hM.t)) (by decide) rfl (by decide) rfl rfl (Nat.le_of_ble_eq_true rfl) dX11_findPairs_1 (kV fun M1 L1 q1 => ?_)
  obtain ⟨rfl, hB⟩ := q1
  have hmax := bits_le hM.n60 (fun d => hM.t)
  refine wx_aload_n C 0 dX11_findPairs_4 rfl rfl ?_
  refine wx_iconst C 0 dX11_findPairs_5 (by decide) ?_
  refine pf_X11_160 C dX11_findPairs_6 ?_
  refine wx_aload_n C 0 dX11_findPairs_9 rfl rfl ?_
  refine gf_X11_150 C dX11_findPairs_10 ?_
  refine wx_bipush C 40 dX11_findPairs_13 (by decide) ?_
  refine wx_icmp_le C 20 dX11_findPairs_15 (by decide) (fun c15 => ?_) (fun c15 => ?_)
  · have hle : (bl (mB M) n n).length ≤ 40 := by
      rw [show g_st M1 149 25 0 149 22 = nI (bl (mB M) n n).length from (by rw [g_st_ap, if_neg (by decide)]; exact hB.2.1), show (40 : Int32) = nI 40 from rfl] at c15
      exact (nI_leI (by omega) (by decide)).mp c15
    refine wx_iconst C 0 dX11_findPairs_20 (by decide) ?_
    refine wx_istore_n C [1, 0] [(0, .ref (X.1.1 + 149)), (1, .int 0)] dX11_findPairs_21 rfl (by decide) rfl ?_
    exact lp_X11_findPairs C hQ rfl rfl (fun e he => bl_mem (Nat.le_refl n) e he) hM.n60 hle hM.g (fun N hN => ⟨_, rfl, rfl, hN.1.1, Or.inr ⟨hle, rfl, hN⟩⟩) ((bl (mB M) n n).length + 1) 0 (by omega) (by omega) _ ⟨⟨fun a b h1 h2 => by rw [g_st_ap, if_neg (by omega)]; exact hB.1 a b h1 h2, by rw [g_st_ap, if_neg (by decide)]; exact hB.2.1, fun q e he => by rw [g_st_ap, if_neg (by omega), g_st_ap, if_neg (by omega)]; exact hB.2.2 q e he⟩, by rw [g_st_ap, if_pos ⟨rfl, rfl⟩]; rfl, fun q e he => by simp [bl] at he⟩
  · refine wx_iconst C 0 dX11_findPairs_18 (by decide) ?_
    refine wx_zret C hQ dX11_findPairs_19 (by decide) ?_
    refine ⟨_, rfl, rfl, fun a b h1 h2 => by rw [g_st_ap, if_neg (by omega)]; exact hB.1 a b h1 h2, Or.inl ⟨?_, rfl⟩⟩
    rw [show g_st M1 149 25 0 149 22 = nI (bl (mB M) n n).length from (by rw [g_st_ap, if_neg (by decide)]; exact hB.2.1), show (40 : Int32) = nI 40 from rfl] at c15
    exact Nat.lt_of_not_le (fun z => c15 ((nI_leI (by omega) (by decide)).mpr z))
def mtot (M : g_M) (n : Nat) : Int32 := if 40 < (bl (mB M) n n).length then -1 else nI (mPL M n).length
def mplE (M : g_M) (n : Nat) : List (Nat × Nat) := if 40 < (bl (mB M) n n).length then [] else mPL M n
theorem mPL_le (M : g_M) {n : Nat} (h : (bl (mB M) n n).length ≤ 40) : (mPL M n).length ≤ 780 := Nat.le_trans (bl_tri (fun x y => prG_lt x y) _ _) (tri_780 _ (by omega))
theorem mPL_in {M : g_M} {n q : Nat} {e : Nat × Nat} (h : (mPL M n)[q]? = some e) : e.1 < (bl (mB M) n n).length ∧ e.2 < (bl (mB M) n n).length := bl_mem (Nat.le_refl _) e (List.mem_of_getElem? h)
set_option maxHeartbeats 4000000 in
set_option maxRecDepth 100000 in
theorem t_X11_pairs (G : g_G) (M : g_M) (L : g_L) {n e fa ac : Nat} {sz : Nat → Nat} {rr : Nat → Nat → Nat} {go : Nat → Bool} (hM : mI M n e fa ac sz rr go) : mt G yX11_pairs (Cond.code yX11_pairs cX11_pairs 1 (some .int)) 5 [.ref (G.1 + 149)] M L (qI fun v M' L' => L = L' ∧ frM M M' ∧ v = mtot M n) := by
  refine mt_of (by decide) rfl (Nat.le_of_ble_eq_true rfl) [(0, .ref (G.1 + 149))] rfl (fun X hG C hQ => ?_)
  subst hG
  refine wx_aload_n C 0 dX11_pairs_0 rfl rfl ?_
  refine ca_X11_166 C (rest := []) (t_X11_findPairs X.1 M L hM) (by decide) rfl (by decide) rfl rfl (Nat.le_of_ble_eq_true rfl) dX11_pairs_1 (kI fun r1 M1 L1 q1 => ?_)
  obtain ⟨rfl, hfr, hP⟩ := q1
  refine wx_if_eq C 14 dX11_pairs_4 (by decide) (fun c4 => ?_) (fun c4 => ?_)
  · refine wx_iconst C (-1) dX11_pairs_14 (by decide) ?_
    refine wx_iret C hQ dX11_pairs_15 ?_
    refine ⟨_, rfl, rfl, hfr, ?_⟩
    unfold mtot
    rcases hP with ⟨h1, h2⟩ | ⟨h1, h2, h3⟩
    · rw [if_pos h1]
    · exact absurd c4 (by rw [h2]; decide)
  · refine wx_aload_n C 0 dX11_pairs_7 rfl rfl ?_
    refine gf_X11_160 C dX11_pairs_8 ?_
    refine wx_goto C 15 dX11_pairs_11 (by decide) ?_
    refine wx_iret C hQ dX11_pairs_15 ?_
    refine ⟨_, rfl, rfl, hfr, ?_⟩
    unfold mtot
    rcases hP with ⟨h1, h2⟩ | ⟨h1, h2, h3⟩
    · exact absurd h2 c4
    · rw [if_neg (by omega)]
      exact h3.2.1
set_option maxHeartbeats 4000000 in
set_option maxRecDepth 100000 in
theorem t_X11_pair (G : g_G) (M : g_M) (L : g_L) (x k : Int32) {n e fa ac : Nat} {sz : Nat → Nat} {rr : Nat → Nat → Nat} {go : Nat → Bool} (hM : mI M n e fa ac sz rr go) : mt G yX11_pair (Cond.code yX11_pair cX11_pair 3 (some .int)) 5 [.ref (G.1 + 149), .int x, .int k] M L (qI fun v M' L' => L = L' ∧ frM M M' ∧ v = prV (mplE M n) x k) := by
  refine mt_of (by decide) rfl (Nat.le_of_ble_eq_true rfl) [(0, .ref (G.1 + 149)), (1, .int x), (2, .int k)] rfl (fun X hG C hQ => ?_)
  subst hG
  refine wx_aload_n C 0 dX11_pair_0 rfl rfl ?_
  refine ca_X11_166 C (rest := []) (t_X11_findPairs X.1 M L hM) (by decide) rfl (by decide) rfl rfl (Nat.le_of_ble_eq_true rfl) dX11_pair_1 (kI fun r1 M1 L1 q1 => ?_)
  obtain ⟨rfl, hfr, hP⟩ := q1
  refine wx_if_eq C 21 dX11_pair_4 (by decide) (fun c4 => ?_) (fun c4 => ?_)
  · refine wx_iconst C (-1) dX11_pair_21 (by decide) ?_
    refine wx_iret C hQ dX11_pair_22 ?_
    refine ⟨_, rfl, rfl, hfr, ?_⟩
    first
    | (rcases hP with ⟨h1, h2⟩ | ⟨h1, h2, h3⟩
       · unfold mplE
         rw [if_pos h1]
         unfold prV getP
         simp
       · exact absurd c4 (by rw [h2]; decide))
    | (rcases hP with ⟨h1, h2⟩ | ⟨h1, h2, h3⟩
       · exact absurd h2 c4
       · unfold mplE
         rw [if_neg (by omega)]
         have hin := bI_0.mp c18
         have hle := mPL_le M h1
         rw [h3.2.1, inW_p (by omega)] at hin
         rw [prV_n (by omega) hin])
  · refine wx_iload_n C 1 dX11_pair_7 rfl rfl ?_
    refine wx_iconst C 0 dX11_pair_8 (by decide) ?_
    refine wx_aload_n C 0 dX11_pair_9 rfl rfl ?_
    refine gf_X11_160 C dX11_pair_10 ?_
    refine wx_iconst C 1 dX11_pair_13 (by decide) ?_
    refine wx_isub C dX11_pair_14 ?_
    refine ca_X11_78 C (rest := []) (t_X11_isIn X.1 M1 L x 0 (M1 149 25 - 1)) (by decide) rfl rfl (Nat.le_of_ble_eq_true rfl) dX11_pair_15 (kI fun r15 M15 L15 q15 => ?_)
    obtain ⟨rfl, rfl, rfl⟩ := q15
    refine wx_if_ne C 23 dX11_pair_18 (by decide) (fun c18 => ?_) (fun c18 => ?_)
    · obtain ⟨h1, h3⟩ : (bl (mB M) n n).length ≤ 40 ∧ pfM M M1 (bl (mB M) n n) (mPL M n) := by
        rcases hP with ⟨h1, h2⟩ | ⟨h1, h2, h3⟩
        · exact absurd h2 c4
        · exact ⟨h1, h3⟩
      have hle := mPL_le M h1
      have hin := bI_n0.mp c18
      rw [h3.2.1, inW_p (by omega)] at hin
      obtain ⟨q, hq, rfl⟩ := dHas_t (by omega) hin
      have he0 := getD_some hq
      have hq2 := h3.2.2 q _ he0
      have eE : mplE M n = mPL M n := by unfold mplE; rw [if_neg (by omega)]
      refine wx_iload_n C 2 dX11_pair_23 rfl rfl ?_
      refine wx_if_ne C 36 dX11_pair_24 (by decide) (fun c24 => ?_) (fun c24 => ?_)
      · refine wx_iload_n C 2 dX11_pair_36 rfl rfl ?_
        refine wx_iconst C 1 dX11_pair_37 (by decide) ?_
        refine wx_icmp_ne C 50 dX11_pair_38 (by decide) (fun c38 => ?_) (fun c38 => ?_)
        · refine wx_iconst C (-1) dX11_pair_50 (by decide) ?_
          refine wx_iret C hQ dX11_pair_51 ?_
          refine ⟨_, rfl, rfl, hfr, ?_⟩
          rw [eE, prV_q (by omega) he0]
          rw [if_neg c24, if_neg c38]
        · refine wx_aload_n C 0 dX11_pair_41 rfl rfl ?_
          refine gf_X11_60 C dX11_pair_42 ?_
          refine wx_iload_n C 1 dX11_pair_45 rfl rfl ?_
          refine wx_iald C 163 q (by decide) (fun _ _ => rfl) (by decide) dX11_pair_46 rfl (by omega) ?_
          refine wx_goto C 51 dX11_pair_47 (by decide) ?_
          refine wx_iret C hQ dX11_pair_51 ?_
          refine ⟨_, rfl, rfl, hfr, ?_⟩
          rw [eE, prV_q (by omega) he0]
          rw [if_neg c24, if_pos c38]
          exact hq2.2
      · refine wx_aload_n C 0 dX11_pair_27 rfl rfl ?_
        refine gf_X11_57 C dX11_pair_28 ?_
        refine wx_iload_n C 1 dX11_pair_31 rfl rfl ?_
        refine wx_iald C 162 q (by decide) (fun _ _ => rfl) (by decide) dX11_pair_32 rfl (by omega) ?_
        refine wx_goto C 51 dX11_pair_33 (by decide) ?_
        refine wx_iret C hQ dX11_pair_51 ?_
        refine ⟨_, rfl, rfl, hfr, ?_⟩
        rw [eE, prV_q (by omega) he0]
        rw [if_pos c24]
        exact hq2.1
    · refine wx_iconst C (-1) dX11_pair_21 (by decide) ?_
      refine wx_iret C hQ dX11_pair_22 ?_
      refine ⟨_, rfl, rfl, hfr, ?_⟩
      first
      | (rcases hP with ⟨h1, h2⟩ | ⟨h1, h2, h3⟩
         · unfold mplE
           rw [if_pos h1]
           unfold prV getP
           simp
         · exact absurd c4 (by rw [h2]; decide))
      | (rcases hP with ⟨h1, h2⟩ | ⟨h1, h2, h3⟩
         · exact absurd h2 c4
         · unfold mplE
           rw [if_neg (by omega)]
           have hin := bI_0.mp c18
           have hle := mPL_le M h1
           rw [h3.2.1, inW_p (by omega)] at hin
           rw [prV_n (by omega) hin])
