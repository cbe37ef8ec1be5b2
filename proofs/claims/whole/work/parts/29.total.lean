/-! ===== PairList: the pairs ===== -/
def r4 (B : List (Nat × Nat)) (a b : Nat) : Nat → Nat := fun i => if i = 0 then (B.getD a (0, 0)).1 else if i = 1 then (B.getD a (0, 0)).2 else if i = 2 then (B.getD b (0, 0)).1 else (B.getD b (0, 0)).2
def prG (t : Nat → Int32) (S : (Nat → Nat) → Nat → Bool) (B : List (Nat × Nat)) (a b : Nat) : Bool := decide (a < b) && (decide (¬ t (B.getD a (0, 0)).1 / 24 = t (B.getD b (0, 0)).1 / 24) && S (r4 B a b) 4)
def fr6 (M N : g_M) : Prop := ∀ a b, ¬ (a = 7 ∧ (b = 3 ∨ b = 4)) → ¬ (a = 9 ∧ b = 9) → ¬ (a = 10 ∨ a = 11 ∨ a = 14 ∨ a = 15) → N a b = M a b
def pfI (M N : g_M) (l : List (Nat × Nat)) : Prop := fr6 M N ∧ N 9 9 = nI l.length ∧ ∀ q e, l[q]? = some e → N 10 q = nI e.1 ∧ N 11 q = nI e.2
def bkO (M : g_M) (B : List (Nat × Nat)) : Prop := M 9 8 = nI B.length ∧ B.length ≤ 40 ∧ ∀ q e, B[q]? = some e → M 12 q = nI e.1 ∧ M 13 q = nI e.2 ∧ e.1 < 60 ∧ e.2 < 60
theorem fr6.o {M N : g_M} (h : fr6 M N) (a : Nat) (h1 : a ≠ 7) (h2 : a ≠ 9) (h3 : ¬ (a = 10 ∨ a = 11 ∨ a = 14 ∨ a = 15)) : N a = M a := by
  funext b
  exact h a b (by omega) (by omega) h3
theorem fr6.eS {M N : g_M} (h : fr6 M N) : snd N = snd M := by
  funext r l
  have e : ∀ ax, cLp N ax r l = cLp M ax r l := fun ax => by
    unfold cLp
    rw [h.o 2 (by decide) (by decide) (by decide), h.o 3 (by decide) (by decide) (by decide), h.o 4 (by decide) (by decide) (by decide), h 7 2 (by decide) (by decide) (by decide), h 7 1 (by decide) (by decide) (by decide)]
  show (anyS (cLp N 0 r l) 41 && anyS (cLp N 1 r l) 41) = (anyS (cLp M 0 r l) 41 && anyS (cLp M 1 r l) 41)
  rw [e, e]
theorem pfI.sr {M N : g_M} {l : List (Nat × Nat)} (h : pfI M N l) (n : Nat) (f : Nat → Int32) : pfI M (g_sr N 14 n f) l := by
  obtain ⟨h1, h2, h3⟩ := h
  refine ⟨fun a b x y z => ?_, ?_, fun q e he => ⟨?_, ?_⟩⟩
  · rw [g_sr_out _ _ _ _ _ (by omega) (by omega)]; exact h1 a b x y z
  · rw [g_sr_out _ _ _ _ _ (by decide) (by decide)]; exact h2
  · rw [g_sr_out _ _ _ _ _ (by decide) (by decide)]; exact (h3 q e he).1
  · rw [g_sr_out _ _ _ _ _ (by decide) (by decide)]; exact (h3 q e he).2
theorem pfI.nt {M N : g_M} {l : List (Nat × Nat)} (h : pfI M N l) (x y : Int32) : pfI M (nt N x y) l := by
  obtain ⟨h1, h2, h3⟩ := h
  refine ⟨fun a b u v z => ?_, h2, fun q e he => h3 q e he⟩
  rw [nt_ap, if_neg (by omega), if_neg (by omega)]; exact h1 a b u v z
theorem pfI.add {M N : g_M} {l : List (Nat × Nat)} (h : pfI M N l) (a b : Nat) : pfI M (g_st (g_st (g_st N 10 l.length (nI a)) 11 l.length (nI b)) 9 9 (nI (l.length + 1))) (l ++ [(a, b)]) := by
  obtain ⟨h1, h2, h3⟩ := h
  refine ⟨fun x y u v z => ?_, ?_, fun q e he => ?_⟩
  · rw [g_st_ap, if_neg (by omega), g_st_ap, if_neg (by omega), g_st_ap, if_neg (by omega)]; exact h1 x y u v z
  · rw [g_st_ap, if_pos ⟨rfl, rfl⟩]; simp
  · have e10 : g_st (g_st (g_st N 10 l.length (nI a)) 11 l.length (nI b)) 9 9 (nI (l.length + 1)) 10 q = if q = l.length then nI a else N 10 q := by simp [g_st_ap]
    have e11 : g_st (g_st (g_st N 10 l.length (nI a)) 11 l.length (nI b)) 9 9 (nI (l.length + 1)) 11 q = if q = l.length then nI b else N 11 q := by simp [g_st_ap]
    rw [e10, e11]
    by_cases hq : q = l.length
    · subst hq
      rw [List.getElem?_append_right (Nat.le_refl _), Nat.sub_self] at he
      cases he
      exact ⟨by rw [if_pos rfl], by rw [if_pos rfl]⟩
    · have hl : q < l.length := by
        have := (List.getElem?_eq_some_iff.mp he).1
        simp at this
        omega
      rw [List.getElem?_append_left hl] at he
      rw [if_neg hq, if_neg hq]
      exact h3 q e he
theorem rowl_tri {P : Nat → Nat → Bool} (hP : ∀ a b, P a b = true → a < b) (a : Nat) : ∀ b, (rowl P a b).length ≤ b - (a + 1)
  | 0 => by simp [rowl]
  | b + 1 => by
    have h := rowl_tri hP a b
    simp only [rowl, List.length_append]
    split
    · rename_i h2
      have := hP a b h2
      simp
      omega
    · simp
      omega
theorem rowl_nil {P : Nat → Nat → Bool} (hP : ∀ a b, P a b = true → a < b) (a : Nat) : rowl P a (a + 1) = [] := by
  have h := rowl_tri hP a (a + 1)
  exact List.eq_nil_of_length_eq_zero (by omega)
def tri (m : Nat) : Nat → Nat
  | 0 => 0
  | a + 1 => tri m a + (m - (a + 1))
theorem bl_tri {P : Nat → Nat → Bool} (hP : ∀ a b, P a b = true → a < b) (m : Nat) : ∀ a, (bl P m a).length ≤ tri m a
  | 0 => by simp [bl, tri]
  | a + 1 => by
    have h := bl_tri hP m a
    have h2 := rowl_tri hP a m
    simp only [bl, tri, List.length_append]
    omega
theorem tri_780 : ∀ m, m < 41 → tri m m ≤ 780 := by decide
theorem prG_lt {t : Nat → Int32} {S : (Nat → Nat) → Nat → Bool} {B : List (Nat × Nat)} (a b : Nat) (h : prG t S B a b = true) : a < b := by
  unfold prG at h
  rw [Bool.and_eq_true, decide_eq_true_eq] at h
  exact h.1
theorem getD_some {B : List (Nat × Nat)} {a : Nat} (h : a < B.length) : B[a]? = some (B.getD a (0, 0)) := by
  rw [List.getD_eq_getElem?_getD, List.getElem?_eq_getElem h]
  rfl
set_option maxHeartbeats 4000000 in
set_option maxRecDepth 100000 in
theorem lp_X5_findPairs_i {X : g_X} {Qr : Option Value → g_M → g_L → Prop} (C : Cx X cX5_findPairs 3 RX5 none 4) (hQ : Rx X Qr) {M : g_M} {L : g_L} {B : List (Nat × Nat)} {a : Nat} (hB : bkO M B) (hg : 1 ≤ (M 7 1).toInt) (ha : a < B.length) (K : ∀ N, pfI M N (bl (prG (M 2) (snd M) B) B.length (a + 1)) → wx X N L 17 [(0, .ref (X.1.1 + 9)), (1, .int (nI (a + 1)))] []) : ∀ (n i : Nat), i ≤ B.length → B.length < i + n → a < i → ∀ (N : g_M), pfI M N (bl (prG (M 2) (snd M) B) B.length a ++ rowl (prG (M 2) (snd M) B) a i) → wx X N L 29 [(0, .ref (X.1.1 + 9)), (1, .int (nI a)), (2, .int (nI i))] [] := by
  intro n
  induction n with
  | zero =>
    intro i h1 h2 _
    exact absurd h2 (by omega)
  | succ n ih =>
    intro i hi0 hin hai N hN
    have h98 : N 9 8 = nI B.length := by rw [hN.1 9 8 (by decide) (by decide) (by decide)]; exact hB.1
    have h40 := hB.2.1
    refine wx_iload_n C 2 dX5_findPairs_29 rfl rfl ?_
    refine wx_aload_n C 0 dX5_findPairs_30 rfl rfl ?_
    refine gf_X5_53 C dX5_findPairs_31 ?_
    refine wx_icmp_ge C 82 dX5_findPairs_34 (by decide) (fun c34 => ?_) (fun c34 => ?_)
    · have hib : i = B.length := by
        rw [h98] at c34
        exact Nat.le_antisymm hi0 ((nI_leI (by omega) (by omega)).mp c34)
      refine wx_iinc C (v := (nI (a + 1))) 1 [1, 0, 2] [(0, .ref (X.1.1 + 9)), (1, .int (nI (a + 1))), (2, .int (nI i))] dX5_findPairs_82 rfl (nI_1 _) (by decide) rfl ?_
      refine wx_goto C 17 dX5_findPairs_85 (by decide) ?_
      exact wx_sub [0, 1] rfl (K N (by rw [bl, ← hib]; rw [hib]; rw [hib] at hN; exact hN))
    · have hi : i < B.length := by
        rw [h98] at c34
        exact Nat.lt_of_not_le (fun h => c34 ((nI_leI (by omega) (by omega)).mpr h))
      have hBa := hB.2.2 a _ (getD_some ha)
      have hBi := hB.2.2 i _ (getD_some hi)
      have h12 : N 12 = M 12 := hN.1.o 12 (by decide) (by decide) (by decide)
      have h13 : N 13 = M 13 := hN.1.o 13 (by decide) (by decide) (by decide)
      have e12 : ∀ q, (g_sr N 14 4 (f4 N a i)) 12 q = M 12 q := fun q => by rw [g_sr_out _ _ _ _ _ (by decide) (by decide), h12]
      have e2 : (g_sr N 14 4 (f4 N a i)) 2 = M 2 := by funext q; rw [g_sr_out _ _ _ _ _ (by decide) (by decide)]; exact congrFun (hN.1.o 2 (by decide) (by decide) (by decide)) q
      have h6 : fr6 M (g_sr N 14 4 (f4 N a i)) := (hN.sr 4 (f4 N a i)).1
      have hk : rok (g_sr N 14 4 (f4 N a i)) 14 4 (r4 B a i) := by
        refine ⟨rw_14, g_sr_len _ _ _ _, by decide, fun q hq => ?_⟩
        rw [g_sr_at _ _ _ _ hq]
        unfold f4 r4
        rw [h12, h13]
        rcases (show q = 0 ∨ q = 1 ∨ q = 2 ∨ q = 3 by omega) with rfl | rfl | rfl | rfl
        · exact ⟨hBa.1, hBa.2.2.1⟩
        · exact ⟨hBa.2.1, hBa.2.2.2⟩
        · exact ⟨hBi.1, hBi.2.2.1⟩
        · exact ⟨hBi.2.1, hBi.2.2.2⟩
      have hg1 : 1 ≤ ((g_sr N 14 4 (f4 N a i)) 7 1).toInt := by rw [h6 7 1 (by decide) (by decide) (by decide)]; exact hg
      refine wx_aload_n C 0 dX5_findPairs_37 rfl rfl ?_
      refine wx_iload_n C 1 dX5_findPairs_38 rfl rfl ?_
      refine wx_iload_n C 2 dX5_findPairs_39 rfl rfl ?_
      refine wx_aload_n C 0 dX5_findPairs_40 rfl rfl ?_
      refine gf_X5_27 C dX5_findPairs_41 ?_
      refine ca_X5_82 C (rest := []) (t_X5_gather X.1 N L rw_14 rfl (by omega) rfl (by omega)) (by decide) rfl (by decide) rfl rfl (Nat.le_of_ble_eq_true rfl) dX5_findPairs_44 (kV fun M44 L44 q44 => ?_)
      obtain ⟨rfl, rfl⟩ := q44
      refine wx_aload_n C 0 dX5_findPairs_47 rfl rfl ?_
      refine wx_iload_n C 1 dX5_findPairs_48 rfl rfl ?_
      refine wx_iload_n C 2 dX5_findPairs_49 rfl rfl ?_
      refine ca_X5_86 C (rest := []) (t_X5_areOfUnlikeNights X.1 (g_sr N 14 4 (f4 N a i)) L rfl (by omega) rfl (by omega) ((e12 a).trans hBa.1) hBa.2.2.1 ((e12 i).trans hBi.1) hBi.2.2.1) (by decide) rfl (by decide) rfl rfl (Nat.le_of_ble_eq_true rfl) dX5_findPairs_50 (kI fun r50 M50 L50 q50 => ?_)
      obtain ⟨rfl, rfl, rfl⟩ := q50
      rw [e2]
      refine wx_if_eq C 76 dX5_findPairs_53 (by decide) (fun c53 => ?_) (fun c53 => ?_)
      · refine wx_iinc C (v := (nI (i + 1))) 2 [1, 2, 0] [(0, .ref (X.1.1 + 9)), (1, .int (nI a)), (2, .int (nI (i + 1)))] dX5_findPairs_76 rfl (nI_1 _) (by decide) rfl ?_
        refine wx_goto C 29 dX5_findPairs_79 (by decide) ?_
        have hf : prG (M 2) (snd M) B a i = false := by
          unfold prG
          rw [bI_0.mp c53, Bool.false_and, Bool.and_false]
        refine ih (i + 1) (by omega) (by omega) (by omega) _ ?_
        rw [rowl, if_neg (by rw [hf]; decide), List.append_nil]
        exact hN.sr _ _
      · refine wx_aload_n C 0 dX5_findPairs_56 rfl rfl ?_
        refine gf_X5_35 C dX5_findPairs_57 ?_
        refine wx_aload_n C 0 dX5_findPairs_60 rfl rfl ?_
        refine gf_X5_27 C dX5_findPairs_61 ?_
        refine ca_X5_89 C (rest := []) (t_X4_isSound X.1 (g_sr N 14 4 (f4 N a i)) L hk hg1) (by decide) rfl (by decide) rfl rfl (Nat.le_of_ble_eq_true rfl) dX5_findPairs_64 (kI fun r64 M64 L64 q64 => ?_)
        obtain ⟨rfl, rfl, a64, b64, rfl⟩ := q64
        rw [h6.eS]
        refine wx_if_eq C 76 dX5_findPairs_67 (by decide) (fun c67 => ?_) (fun c67 => ?_)
        · refine wx_iinc C (v := (nI (i + 1))) 2 [1, 2, 0] [(0, .ref (X.1.1 + 9)), (1, .int (nI a)), (2, .int (nI (i + 1)))] dX5_findPairs_76 rfl (nI_1 _) (by decide) rfl ?_
          refine wx_goto C 29 dX5_findPairs_79 (by decide) ?_
          have hf : prG (M 2) (snd M) B a i = false := by
            unfold prG
            rw [bI_0.mp c67, Bool.and_false, Bool.and_false]
          refine ih (i + 1) (by omega) (by omega) (by omega) _ ?_
          rw [rowl, if_neg (by rw [hf]; decide), List.append_nil]
          exact (hN.sr _ _).nt _ _
        · have hf : prG (M 2) (snd M) B a i = true := by
            unfold prG
            rw [bI_n0.mp c53, bI_n0.mp c67, decide_eq_true hai]
            rfl
          have hlt := bl_lt ha hi hf
          have htri := bl_tri (P := (prG (M 2) (snd M) B)) (fun x y => prG_lt x y) B.length B.length
          have h780 := tri_780 B.length (by omega)
          refine wx_aload_n C 0 dX5_findPairs_70 rfl rfl ?_
          refine wx_iload_n C 1 dX5_findPairs_71 rfl rfl ?_
          refine wx_iload_n C 2 dX5_findPairs_72 rfl rfl ?_
          refine ca_X5_95 C (rest := []) (t_X5_keepPair X.1 (nt (g_sr N 14 4 (f4 N a i)) a64 b64) L (n := (bl (prG (M 2) (snd M) B) B.length a).length + (rowl (prG (M 2) (snd M) B) a i).length) (by have h := ((hN.sr 4 (f4 N a i)).nt a64 b64).2.1; rw [List.length_append] at h; exact h) (by omega)) (by decide) rfl (by decide) rfl rfl (Nat.le_of_ble_eq_true rfl) dX5_findPairs_73 (kV fun M73 L73 q73 => ?_)
          obtain ⟨rfl, rfl⟩ := q73
          refine wx_iinc C (v := (nI (i + 1))) 2 [1, 2, 0] [(0, .ref (X.1.1 + 9)), (1, .int (nI a)), (2, .int (nI (i + 1)))] dX5_findPairs_76 rfl (nI_1 _) (by decide) rfl ?_
          refine wx_goto C 29 dX5_findPairs_79 (by decide) ?_
          refine ih (i + 1) (by omega) (by omega) (by omega) _ ?_
          rw [rowl, if_pos hf, ← List.append_assoc]
          have h := ((hN.sr 4 (f4 N a i)).nt a64 b64).add a i
          rw [List.length_append] at h
          exact h
set_option maxHeartbeats 4000000 in
set_option maxRecDepth 100000 in
theorem lp_X5_findPairs {X : g_X} {Qr : Option Value → g_M → g_L → Prop} (C : Cx X cX5_findPairs 3 RX5 none 4) (hQ : Rx X Qr) {M : g_M} {L : g_L} {B : List (Nat × Nat)} (hB : bkO M B) (hg : 1 ≤ (M 7 1).toInt) (hp : ∀ N, pfI M N (bl (prG (M 2) (snd M) B) B.length B.length) → Qr none N L) : ∀ (n i : Nat), i ≤ B.length → B.length < i + n → ∀ (N : g_M), pfI M N (bl (prG (M 2) (snd M) B) B.length i) → wx X N L 17 [(0, .ref (X.1.1 + 9)), (1, .int (nI i))] [] := by
  intro n
  induction n with
  | zero =>
    intro i h1 h2
    exact absurd h2 (by omega)
  | succ n ih =>
    intro i hi0 hin N hN
    have h98 : N 9 8 = nI B.length := by rw [hN.1 9 8 (by decide) (by decide) (by decide)]; exact hB.1
    have h40 := hB.2.1
    refine wx_iload_n C 1 dX5_findPairs_17 rfl rfl ?_
    refine wx_aload_n C 0 dX5_findPairs_18 rfl rfl ?_
    refine gf_X5_53 C dX5_findPairs_19 ?_
    refine wx_icmp_ge C 88 dX5_findPairs_22 (by decide) (fun c22 => ?_) (fun c22 => ?_)
    · have hib : i = B.length := by
        rw [h98] at c22
        exact Nat.le_antisymm hi0 ((nI_leI (by omega) (by omega)).mp c22)
      refine wx_vret C hQ dX5_findPairs_88 ?_
      rw [hib] at hN
      exact hp N hN
    · have hi : i < B.length := by
        rw [h98] at c22
        exact Nat.lt_of_not_le (fun h => c22 ((nI_leI (by omega) (by omega)).mpr h))
      refine wx_iload_n C 1 dX5_findPairs_25 rfl rfl ?_
      refine wx_iconst C 1 dX5_findPairs_26 (by decide) ?_
      refine wx_iadd C dX5_findPairs_27 ?_
      refine wx_istore_n C [1, 2, 0] [(0, .ref (X.1.1 + 9)), (1, .int (nI i)), (2, .int ((nI i) + 1))] dX5_findPairs_28 rfl (by decide) rfl ?_
      rw [nI_1]
      exact lp_X5_findPairs_i C hQ hB hg hi (fun N2 h2 => ih (i + 1) (by omega) (by omega) N2 h2) (B.length + 1) (i + 1) (by omega) (by omega) (by omega) N (by rw [rowl_nil (fun x y => prG_lt x y), List.append_nil]; exact hN)
set_option maxHeartbeats 4000000 in
set_option maxRecDepth 100000 in
theorem t_X5_findPairs (G : g_G) (M : g_M) (L : g_L) {B : List (Nat × Nat)} (hB : bkO M B) (hg : 1 ≤ (M 7 1).toInt) : mt G yX5_findPairs (Cond.code yX5_findPairs cX5_findPairs 3 none) 4 [.ref (G.1 + 9)] M L (qV fun M' L' => L = L' ∧ pfI M M' (bl (prG (M 2) (snd M) B) B.length B.length)) := by
  refine mt_of (by decide) rfl (Nat.le_of_ble_eq_true rfl) [(0, .ref (G.1 + 9))] rfl (fun X hG C hQ => ?_)
  subst hG
  refine wx_aload_n C 0 dX5_findPairs_0 rfl rfl ?_
  refine wx_iconst C 0 dX5_findPairs_1 (by decide) ?_
  refine pf_X5_57 C dX5_findPairs_2 ?_
  refine wx_aload_n C 0 dX5_findPairs_5 rfl rfl ?_
  refine gf_X5_53 C dX5_findPairs_6 ?_
  refine wx_bipush C 40 dX5_findPairs_9 (by decide) ?_
  refine wx_icmp_le C 15 dX5_findPairs_11 (by decide) (fun c11 => ?_) (fun c11 => absurd c11 (fun z => z (by rw [g_st_ap, if_neg (by decide), hB.1]; exact (nI_leI (a := B.length) (b := 40) (by have := hB.2.1; omega) (by decide)).mpr hB.2.1)))
  refine wx_iconst C 0 dX5_findPairs_15 (by decide) ?_
  refine wx_istore_n C [1, 0] [(0, .ref (X.1.1 + 9)), (1, .int 0)] dX5_findPairs_16 rfl (by decide) rfl ?_
  exact lp_X5_findPairs C hQ hB hg (fun N h => ⟨rfl, rfl, h⟩) (B.length + 1) 0 (by omega) (by omega) _ ⟨fun a b h1 h2 h3 => by rw [g_st_ap, if_neg h2], by rw [g_st_ap, if_pos ⟨rfl, rfl⟩]; rfl, fun q e h => by simp [bl] at h⟩
set_option maxHeartbeats 4000000 in
set_option maxRecDepth 100000 in
theorem t_X5_findPairsN (G : g_G) (M : g_M) (L : g_L) {m : Nat} (hm : M 9 8 = nI m) (h40 : 40 < m) (h31 : m < 2 ^ 31) : mt G yX5_findPairs (Cond.code yX5_findPairs cX5_findPairs 3 none) 4 [.ref (G.1 + 9)] M L (qV fun M' L' => L = L' ∧ M' = g_st M 9 9 0) := by
  refine mt_of (by decide) rfl (Nat.le_of_ble_eq_true rfl) [(0, .ref (G.1 + 9))] rfl (fun X hG C hQ => ?_)
  subst hG
  refine wx_aload_n C 0 dX5_findPairs_0 rfl rfl ?_
  refine wx_iconst C 0 dX5_findPairs_1 (by decide) ?_
  refine pf_X5_57 C dX5_findPairs_2 ?_
  refine wx_aload_n C 0 dX5_findPairs_5 rfl rfl ?_
  refine gf_X5_53 C dX5_findPairs_6 ?_
  refine wx_bipush C 40 dX5_findPairs_9 (by decide) ?_
  refine wx_icmp_le C 15 dX5_findPairs_11 (by decide) (fun c11 => absurd c11 (by rw [g_st_ap, if_neg (by decide), hm]; exact nI_ge (a := 40) (b := m) h40 h31)) (fun c11 => ?_)
  refine wx_vret C hQ dX5_findPairs_14 ?_
  exact ⟨rfl, rfl, rfl⟩
/-- what total leaves: the pairs are known -/
def PLst (M : g_M) (n : Nat) : List (Nat × Nat) := bl (prG (M 2) (snd M) (bl (cB M) n n)) (bl (cB M) n n).length (bl (cB M) n n).length
def chR (M : g_M) (n : Nat) : Prop := M 9 8 = nI (bl (cB M) n n).length ∧ (∀ q e, q < 40 → (bl (cB M) n n)[q]? = some e → M 12 q = nI e.1 ∧ M 13 q = nI e.2) ∧ ((bl (cB M) n n).length ≤ 40 → M 9 9 = nI (PLst M n).length ∧ ∀ q e, (PLst M n)[q]? = some e → M 10 q = nI e.1 ∧ M 11 q = nI e.2)
def fr5 (M N : g_M) : Prop := ∀ a b, ¬ (a = 7 ∧ (b = 3 ∨ b = 4)) → ¬ (a = 9 ∧ (b = 8 ∨ b = 9 ∨ b = 10)) → ¬ (10 ≤ a ∧ a ≤ 15) → N a b = M a b
theorem fr5.o {M N : g_M} (h : fr5 M N) (a : Nat) (h1 : a ≠ 7) (h2 : a ≠ 9) (h3 : ¬ (10 ≤ a ∧ a ≤ 15)) : N a = M a := by
  funext b
  exact h a b (by omega) (by omega) h3
theorem fr5.rf (M : g_M) : fr5 M M := fun _ _ _ _ _ => rfl
theorem fr5.eB {M N : g_M} (h : fr5 M N) : cB N = cB M := by
  show bitP (N 2) (N 3) (N 4) (N 6) (N 8 1) = bitP (M 2) (M 3) (M 4) (M 6) (M 8 1)
  rw [h.o 2 (by decide) (by decide) (by decide), h.o 3 (by decide) (by decide) (by decide), h.o 4 (by decide) (by decide) (by decide), h.o 6 (by decide) (by decide) (by decide), h.o 8 (by decide) (by decide) (by decide)]
theorem fr5.eP {M N : g_M} (h : fr5 M N) (ax : Int32) (r : Nat → Nat) (l : Nat) : cLp N ax r l = cLp M ax r l := by
  show (N 2, plc (N 3) (N 4) ax, N 7 2, N 7 1, r, l) = (M 2, plc (M 3) (M 4) ax, M 7 2, M 7 1, r, l)
  rw [h.o 2 (by decide) (by decide) (by decide), h.o 3 (by decide) (by decide) (by decide), h.o 4 (by decide) (by decide) (by decide), h 7 2 (by decide) (by decide) (by decide), h 7 1 (by decide) (by decide) (by decide)]
theorem fr5.eS {M N : g_M} (h : fr5 M N) : snd N = snd M := by
  funext r l
  show (anyS (cLp N 0 r l) 41 && anyS (cLp N 1 r l) 41) = (anyS (cLp M 0 r l) 41 && anyS (cLp M 1 r l) 41)
  rw [h.eP, h.eP]
theorem fr5.eL {M N : g_M} (h : fr5 M N) (n : Nat) : PLst N n = PLst M n := by
  unfold PLst
  rw [h.eB, h.eS, h.o 2 (by decide) (by decide) (by decide)]
theorem chR_mk {M N : g_M} {n : Nat} (h : fr5 M N) (h1 : N 9 8 = nI (bl (cB M) n n).length) (h2 : ∀ q e, q < 40 → (bl (cB M) n n)[q]? = some e → N 12 q = nI e.1 ∧ N 13 q = nI e.2) (h3 : (bl (cB M) n n).length ≤ 40 → N 9 9 = nI (PLst M n).length ∧ ∀ q e, (PLst M n)[q]? = some e → N 10 q = nI e.1 ∧ N 11 q = nI e.2) : chR N n := by
  unfold chR
  rw [h.eB, h.eL n]
  exact ⟨h1, h2, h3⟩
theorem bl_mem {P : Nat → Nat → Bool} {n : Nat} : ∀ {a : Nat}, a ≤ n → ∀ e ∈ bl P n a, e.1 < n ∧ e.2 < n
  | 0, _, e, h => by simp [bl] at h
  | a + 1, ha, e, h => by
    rcases List.mem_append.mp h with h | h
    · exact bl_mem (by omega) e h
    · have hr : ∀ b, b ≤ n → ∀ e ∈ rowl P a b, e.1 < n ∧ e.2 < n := by
        intro b
        induction b with
        | zero => intro _ e h; simp [rowl] at h
        | succ b ih =>
          intro hb e h
          rcases List.mem_append.mp h with h | h
          · exact ih (by omega) e h
          · split at h
            · simp at h
              subst h
              exact ⟨by omega, by omega⟩
            · simp at h
      exact hr n (Nat.le_refl n) e h
theorem fbM_12 (M : g_M) {l : List (Nat × Nat)} {q : Nat} {e : Nat × Nat} (hq : q < 40) (h : l[q]? = some e) : fbM M l 12 q = nI e.1 ∧ fbM M l 13 q = nI e.2 := by
  unfold fbM
  simp [hq, h]
theorem fr5.trans {M N K : g_M} (h : fr5 M N) (h2 : fr5 N K) : fr5 M K := fun a b x y z => (h2 a b x y z).trans (h a b x y z)
theorem fr6.to5 {M N : g_M} (h : fr6 M N) : fr5 M N := fun a b x y z => h a b x (by omega) (by omega)
theorem fbM_5 (M : g_M) (l : List (Nat × Nat)) : fr5 M (fbM M l) := fun a b x y z => by
  unfold fbM
  rw [if_neg (by omega), if_neg (by omega), if_neg (by omega)]
theorem g_st5 (M : g_M) {j : Nat} (x : Int32) (h : j = 8 ∨ j = 9 ∨ j = 10) : fr5 M (g_st M 9 j x) := fun a b u y z => by
  rw [g_st_ap, if_neg (by omega)]
def toP (M : g_M) (L : g_L) (n : Nat) : Int32 → g_M → g_L → Prop := fun v M' L' => L = L' ∧ fr5 M M' ∧ M' 9 10 = 1 ∧ chR M' n ∧ v = (if 40 < (bl (cB M) n n).length then -1 else nI (PLst M n).length)
set_option maxHeartbeats 4000000 in
set_option maxRecDepth 100000 in
theorem e_X5_total {X : g_X} {Qr : Option Value → g_M → g_L → Prop} (C : Cx X cX5_total 1 RX5 (some .int) 5) (hQ : Rx X Qr) {M N : g_M} {L : g_L} {n : Nat} (h60 : n ≤ 60) (h5 : fr5 M N) (h10 : N 9 10 = 1) (hc : chR N n) (hp : ∀ v M1 L1, toP M L n v M1 L1 → Qr (some (.int v)) M1 L1) : wx X N L 20 [(0, .ref (X.1.1 + 9))] [] := by
  have hsz := bl_le (cB M) n n
  have hsz2 : n * n ≤ 60 * 60 := Nat.mul_le_mul h60 h60
  refine wx_aload_n C 0 dX5_total_20 rfl rfl ?_
  refine gf_X5_53 C dX5_total_21 ?_
  refine wx_bipush C 40 dX5_total_24 (by decide) ?_
  refine wx_icmp_le C 33 dX5_total_26 (by decide) (fun c26 => ?_) (fun c26 => ?_)
  · refine wx_aload_n C 0 dX5_total_33 rfl rfl ?_
    refine gf_X5_57 C dX5_total_34 ?_
    refine wx_iret C hQ dX5_total_37 ?_
    have hle : (bl (cB M) n n).length ≤ 40 := by
      rw [hc.1, h5.eB] at c26
      exact (nI_leI (a := (bl (cB M) n n).length) (b := 40) (by omega) (by decide)).mp c26
    refine hp _ _ _ ⟨rfl, h5, h10, hc, ?_⟩
    rw [if_neg (by omega)]
    have h9 := (hc.2.2 (by rw [h5.eB]; exact hle)).1
    rw [h5.eL] at h9
    exact h9
  · refine wx_iconst C (-1) dX5_total_29 (by decide) ?_
    refine wx_goto C 37 dX5_total_30 (by decide) ?_
    refine wx_iret C hQ dX5_total_37 ?_
    refine hp _ _ _ ⟨rfl, h5, h10, hc, ?_⟩
    rw [if_pos]
    rw [hc.1, h5.eB] at c26
    exact Nat.lt_of_not_le (fun h => c26 ((nI_leI (a := (bl (cB M) n n).length) (b := 40) (by omega) (by decide)).mpr h))
set_option maxHeartbeats 4000000 in
set_option maxRecDepth 100000 in
theorem t_X5_total (G : g_G) (M : g_M) (L : g_L) {n : Nat} (hn : M 1 5 = nI n) (h60 : n ≤ 60) (hg : 1 ≤ (M 7 1).toInt) (hk : M 9 10 = 0 ∨ (M 9 10 = 1 ∧ chR M n)) : mt G yX5_total (Cond.code yX5_total cX5_total 1 (some .int)) 5 [.ref (G.1 + 9)] M L (qI (toP M L n)) := by
  refine mt_of (by decide) rfl (Nat.le_of_ble_eq_true rfl) [(0, .ref (G.1 + 9))] rfl (fun X hG C hQ => ?_)
  subst hG
  refine wx_aload_n C 0 dX5_total_0 rfl rfl ?_
  refine gf_X5_43 C dX5_total_1 ?_
  refine wx_if_ne C 20 dX5_total_4 (by decide) (fun c4 => ?_) (fun c4 => ?_)
  · obtain ⟨h1, h2⟩ : M 9 10 = 1 ∧ chR M n := hk.resolve_left c4
    exact e_X5_total C hQ h60 (fr5.rf M) h1 h2 (fun v M1 L1 h => ⟨v, rfl, h⟩)
  · refine wx_aload_n C 0 dX5_total_7 rfl rfl ?_
    refine ca_X5_47 C (rest := []) (t_X5_findBits X.1 M L hn h60) (by decide) rfl (by decide) rfl rfl (Nat.le_of_ble_eq_true rfl) dX5_total_8 (kV fun M8 L8 q8 => ?_)
    obtain ⟨rfl, rfl⟩ := q8
    have hsz := bl_le (cB M) n n
    have hsz2 : n * n ≤ 60 * 60 := Nat.mul_le_mul h60 h60
    have hf5 := fbM_5 M (bl (cB M) n n)
    have hgg : 1 ≤ (fbM M (bl (cB M) n n) 7 1).toInt := by rw [hf5 7 1 (by decide) (by decide) (by decide)]; exact hg
    by_cases hle : (bl (cB M) n n).length ≤ 40
    · have hB : bkO (fbM M (bl (cB M) n n)) (bl (cB M) n n) := ⟨fbM_len _ _, hle, fun q e he => by
        have hq : q < 40 := by
          have := (List.getElem?_eq_some_iff.mp he).1
          omega
        have hm := bl_mem (Nat.le_refl n) e (List.mem_of_getElem? he)
        exact ⟨(fbM_12 M hq he).1, (fbM_12 M hq he).2, by omega, by omega⟩⟩
      refine wx_aload_n C 0 dX5_total_11 rfl rfl ?_
      refine ca_X5_50 C (rest := []) (t_X5_findPairs X.1 (fbM M (bl (cB M) n n)) L hB hgg) (by decide) rfl (by decide) rfl rfl (Nat.le_of_ble_eq_true rfl) dX5_total_12 (kV fun M12 L12 q12 => ?_)
      obtain ⟨rfl, hI⟩ := q12
      refine wx_aload_n C 0 dX5_total_15 rfl rfl ?_
      refine wx_iconst C 1 dX5_total_16 (by decide) ?_
      refine pf_X5_43 C (by decide) (by decide) dX5_total_17 ?_
      have hPL : bl (prG (fbM M (bl (cB M) n n) 2) (snd (fbM M (bl (cB M) n n))) (bl (cB M) n n)) (bl (cB M) n n).length (bl (cB M) n n).length = PLst M n := by
        unfold PLst
        rw [hf5.eS, hf5.o 2 (by decide) (by decide) (by decide)]
      rw [hPL] at hI
      have h5 : fr5 M (g_st M12 9 10 1) := (hf5.trans hI.1.to5).trans (g_st5 _ _ (by omega))
      refine e_X5_total C hQ h60 h5 (by rw [g_st_ap, if_pos ⟨rfl, rfl⟩]) (chR_mk h5 ?_ ?_ ?_) (fun v M1 L1 h => ⟨v, rfl, h⟩)
      · rw [g_st_ap, if_neg (by decide), hI.1 9 8 (by decide) (by decide) (by decide)]
        exact fbM_len _ _
      · intro q e hq he
        rw [g_st_ap, if_neg (by omega), g_st_ap, if_neg (by omega), hI.1 12 q (by omega) (by omega) (by omega), hI.1 13 q (by omega) (by omega) (by omega)]
        exact fbM_12 M hq he
      · intro _
        rw [g_st_ap, if_neg (by decide)]
        refine ⟨hI.2.1, fun q e he => ?_⟩
        rw [g_st_ap, if_neg (by omega), g_st_ap, if_neg (by omega)]
        exact hI.2.2 q e he
    · refine wx_aload_n C 0 dX5_total_11 rfl rfl ?_
      refine ca_X5_50 C (rest := []) (t_X5_findPairsN X.1 (fbM M (bl (cB M) n n)) L (fbM_len _ _) (Nat.lt_of_not_le hle) (by omega)) (by decide) rfl (by decide) rfl rfl (Nat.le_of_ble_eq_true rfl) dX5_total_12 (kV fun M12 L12 q12 => ?_)
      obtain ⟨rfl, rfl⟩ := q12
      refine wx_aload_n C 0 dX5_total_15 rfl rfl ?_
      refine wx_iconst C 1 dX5_total_16 (by decide) ?_
      refine pf_X5_43 C (by decide) (by decide) dX5_total_17 ?_
      have h5 : fr5 M (g_st (g_st (fbM M (bl (cB M) n n)) 9 9 0) 9 10 1) := (hf5.trans (g_st5 _ _ (by omega))).trans (g_st5 _ _ (by omega))
      refine e_X5_total C hQ h60 h5 (by rw [g_st_ap, if_pos ⟨rfl, rfl⟩]) (chR_mk h5 ?_ ?_ ?_) (fun v M1 L1 h => ⟨v, rfl, h⟩)
      · rw [g_st_ap, if_neg (by decide), g_st_ap, if_neg (by decide)]
        exact fbM_len _ _
      · intro q e hq he
        rw [g_st_ap, if_neg (by omega), g_st_ap, if_neg (by omega), g_st_ap, if_neg (by omega), g_st_ap, if_neg (by omega)]
        exact fbM_12 M hq he
      · intro h
        exact absurd h hle
