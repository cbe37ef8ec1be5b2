/-! ===== the reference: what may change unseen; ahead0; bits ===== -/
def mB (M : g_M) : Nat → Nat → Bool := bitP (M 150) (M 151) (M 152) (M 154) (M 149 2)
def frM (M N : g_M) : Prop := ∀ a b, ¬ (a = 149 ∧ (b = 15 ∨ b = 16 ∨ b = 17 ∨ b = 22 ∨ b = 25)) → ¬ (159 ≤ a ∧ a ≤ 163) → N a b = M a b
theorem frM.rf (M : g_M) : frM M M := fun _ _ _ _ => rfl
theorem frM.trans {M N K : g_M} (h : frM M N) (h2 : frM N K) : frM M K := fun a b x y => (h2 a b x y).trans (h a b x y)
theorem frM.o {M N : g_M} (h : frM M N) (a : Nat) (h1 : a ≠ 149) (h2 : ¬ (159 ≤ a ∧ a ≤ 163)) : N a = M a := by
  funext b
  exact h a b (by omega) h2
theorem frM.eP {M N : g_M} (h : frM M N) (ax : Int32) (r : Nat → Nat) (l : Nat) : mLp N ax r l = mLp M ax r l := by
  show (N 150, plc (N 151) (N 152) ax, N 149 4, N 149 3, r, l) = (M 150, plc (M 151) (M 152) ax, M 149 4, M 149 3, r, l)
  rw [h.o 150 (by decide) (by decide), h.o 151 (by decide) (by decide), h.o 152 (by decide) (by decide), h 149 4 (by decide) (by decide), h 149 3 (by decide) (by decide)]
theorem frM.eS {M N : g_M} (h : frM M N) : msnd N = msnd M := by
  funext r l
  show (anyS (mLp N 0 r l) 41 && anyS (mLp N 1 r l) 41) = (anyS (mLp M 0 r l) 41 && anyS (mLp M 1 r l) 41)
  rw [h.eP, h.eP]
theorem frM.eB {M N : g_M} (h : frM M N) : mB N = mB M := by
  show bitP (N 150) (N 151) (N 152) (N 154) (N 149 2) = bitP (M 150) (M 151) (M 152) (M 154) (M 149 2)
  rw [h.o 150 (by decide) (by decide), h.o 151 (by decide) (by decide), h.o 152 (by decide) (by decide), h.o 154 (by decide) (by decide), h 149 2 (by decide) (by decide)]
theorem frM_mn (M : g_M) (x y : Int32) : frM M (mn M x y) := fun a b h1 _ => by
  rw [mn_ap, if_neg (by omega), if_neg (by omega)]
theorem frM_tk (M : g_M) (l : Nat) (f : Nat → Int32) (i : Nat) : frM M (tk M l f i) := fun a b h1 h2 => by
  unfold tk
  rw [if_neg (by omega), if_neg (by omega)]
theorem frM_ad (M : g_M) (l : Nat) (x y : Int32) : frM M (g_st (g_st M 159 l x) 149 15 y) := fun a b h1 h2 => by
  rw [g_st_ap, if_neg (by omega), g_st_ap, if_neg (by omega)]
theorem frM.g {M N : g_M} (h : frM M N) (hg : 1 ≤ (M 149 3).toInt) : 1 ≤ (N 149 3).toInt := by
  rw [h 149 3 (by decide) (by decide)]; exact hg
/-- a path's dots -/
def mrw (M : g_M) (p l : Nat) (r : Nat → Nat) : Prop := M 156 p = nI l ∧ l ≤ 8 ∧ ∀ i, i < l → M 157 (8 * p + i) = nI (r i) ∧ r i < 60
theorem frM.w {M N : g_M} (h : frM M N) {p l : Nat} {r : Nat → Nat} (hr : mrw M p l r) : mrw N p l r := by
  unfold mrw
  rw [h.o 156 (by decide) (by decide), h.o 157 (by decide) (by decide)]
  exact hr
/-- what the reference's calls take of the memory -/
def mI (M : g_M) (n e fa ac : Nat) (sz : Nat → Nat) (rr : Nat → Nat → Nat) (go : Nat → Bool) : Prop := M 149 0 = nI n ∧ n ≤ 60 ∧ M 149 1 = nI e ∧ e ≤ 12 ∧ (∀ p, p < 12 → mrw M p (sz p) (rr p)) ∧ (∀ p, p < 12 → M 158 p = bI (go p)) ∧ 1 ≤ (M 149 3).toInt ∧ M 149 26 = nI ac ∧ ac ≤ 30 ∧ M 149 27 = nI fa ∧ fa < 30 ∧ ∀ d, d < n → 0 ≤ (M 150 d).toInt ∧ (M 150 d).toInt ≤ 400
section MI
variable {M : g_M} {n e fa ac : Nat} {sz : Nat → Nat} {rr : Nat → Nat → Nat} {go : Nat → Bool}
theorem mI.hn (h : mI M n e fa ac sz rr go) : M 149 0 = nI n := h.1
theorem mI.n60 (h : mI M n e fa ac sz rr go) : n ≤ 60 := h.2.1
theorem mI.he (h : mI M n e fa ac sz rr go) : M 149 1 = nI e := h.2.2.1
theorem mI.e12 (h : mI M n e fa ac sz rr go) : e ≤ 12 := h.2.2.2.1
theorem mI.r (h : mI M n e fa ac sz rr go) {p : Nat} (hp : p < 12) : mrw M p (sz p) (rr p) := h.2.2.2.2.1 p hp
theorem mI.hgo (h : mI M n e fa ac sz rr go) {p : Nat} (hp : p < 12) : M 158 p = bI (go p) := h.2.2.2.2.2.1 p hp
theorem mI.g (h : mI M n e fa ac sz rr go) : 1 ≤ (M 149 3).toInt := h.2.2.2.2.2.2.1
theorem mI.hac (h : mI M n e fa ac sz rr go) : M 149 26 = nI ac := h.2.2.2.2.2.2.2.1
theorem mI.ac30 (h : mI M n e fa ac sz rr go) : ac ≤ 30 := h.2.2.2.2.2.2.2.2.1
theorem mI.hfa (h : mI M n e fa ac sz rr go) : M 149 27 = nI fa := h.2.2.2.2.2.2.2.2.2.1
theorem mI.fa30 (h : mI M n e fa ac sz rr go) : fa < 30 := h.2.2.2.2.2.2.2.2.2.2.1
theorem mI.t (h : mI M n e fa ac sz rr go) {d : Nat} (hd : d < n) : 0 ≤ (M 150 d).toInt ∧ (M 150 d).toInt ≤ 400 := h.2.2.2.2.2.2.2.2.2.2.2 d hd
theorem mI.fr {N : g_M} (h : mI M n e fa ac sz rr go) (f : frM M N) : mI N n e fa ac sz rr go := by
  refine ⟨?_, h.n60, ?_, h.e12, fun p hp => f.w (h.r hp), fun p hp => ?_, f.g h.g, ?_, h.ac30, ?_, h.fa30, fun d hd => ?_⟩
  · rw [f 149 0 (by decide) (by decide)]; exact h.hn
  · rw [f 149 1 (by decide) (by decide)]; exact h.he
  · rw [f 158 p (by omega) (by omega)]; exact h.hgo hp
  · rw [f 149 26 (by decide) (by decide)]; exact h.hac
  · rw [f 149 27 (by decide) (by decide)]; exact h.hfa
  · rw [f 150 d (by omega) (by omega)]; exact h.t hd
end MI
theorem tk_sok {M : g_M} {p l : Nat} {r : Nat → Nat} (h : mrw M p l r) : sok (tk M l (fun b => M 157 (8 * p + b)) l) l r := by
  refine ⟨tk_c _ _ _ _, by have := h.2.1; omega, fun i hi => ⟨?_, (h.2.2 i hi).2⟩⟩
  show (if _ ∧ _ then _ else if _ then _ else _) = _
  rw [if_neg (by omega), if_pos ⟨rfl, hi⟩]
  exact (h.2.2 i hi).1
theorem t_heap (G : g_G) (M : g_M) (L : g_L) {l : Nat} {r : Nat → Nat} (hk : sok M l r) (hg : 1 ≤ (M 149 3).toInt) : mt G yX11_isHeap (Cond.code yX11_isHeap cX11_isHeap 1 (some .boolean)) 3 [.ref (G.1 + 149)] M L (qI fun v M' L' => L = L' ∧ v = bI (msnd M r l) ∧ ∃ a b, M' = mn M a b) := by
  have h := t_X11_isHeap G M L hk hg (M 149 16) (M 149 17)
  rw [mn_self] at h
  exact h
theorem t_lines3 (G : g_G) (M : g_M) (L : g_L) {l : Nat} {r : Nat → Nat} (hk : sok M l r) (hg : 1 ≤ (M 149 3).toInt) (ax : Int32) : mt G yX11_allLines (Cond.code yX11_allLines cX11_allLines 5 (some .long)) 2 [.ref (G.1 + 149), .int ax] M L (qL fun v M' L' => L = L' ∧ v = sumL (mLp M ax r l) 41 ∧ ∃ a b, M' = mn M a b) := by
  have h := t_X11_allLines G M L hk hg (M 149 16) (M 149 17) ax
  rw [mn_self] at h
  exact h
set_option maxHeartbeats 4000000 in
set_option maxRecDepth 100000 in
theorem t_X11_isSound (G : g_G) (M : g_M) (L : g_L) {x : Int32} {p l : Nat} {r : Nat → Nat} (hx : x = nI p) (hp12 : p < 12) (hr : mrw M p l r) (hg : 1 ≤ (M 149 3).toInt) : mt G yX11_isSound (Cond.code yX11_isSound cX11_isSound 2 (some .boolean)) 4 [.ref (G.1 + 149), .int x] M L (qI fun v M' L' => L = L' ∧ v = bI (msnd M r l) ∧ frM M M' ∧ sok M' l r) := by
  refine mt_of (by decide) rfl (Nat.le_of_ble_eq_true rfl) [(0, .ref (G.1 + 149)), (1, .int x)] rfl (fun X hG C hQ => ?_)
  subst hG
  refine wx_aload_n C 0 dX11_isSound_0 rfl rfl ?_
  refine wx_iload_n C 1 dX11_isSound_1 rfl rfl ?_
  refine ca_X11_127 C (rest := []) (t_X11_take X.1 M L hx hp12 hr.1 hr.2.1) (by decide) rfl (by decide) rfl rfl (Nat.le_of_ble_eq_true rfl) dX11_isSound_2 (kV fun M2 L2 q2 => ?_)
  obtain ⟨rfl, rfl⟩ := q2
  have fr := frM_tk M l (fun b => M 157 (8 * p + b)) l
  refine wx_aload_n C 0 dX11_isSound_5 rfl rfl ?_
  refine ca_X11_131 C (rest := []) (t_heap X.1 (tk M l (fun b => M 157 (8 * p + b)) l) L (tk_sok hr) (fr.g hg)) (by decide) rfl (by decide) rfl rfl (Nat.le_of_ble_eq_true rfl) dX11_isSound_6 (kI fun r6 M6 L6 q6 => ?_)
  obtain ⟨rfl, rfl, a6, b6, rfl⟩ := q6
  rw [fr.eS]
  refine wx_zret C hQ dX11_isSound_9 (bI_nar _) ?_
  exact ⟨_, rfl, rfl, rfl, fr.trans (frM_mn _ _ _), (tk_sok hr).mn _ _⟩
theorem thr_ne {p : Lp} {v h : Int32} (hg : 1 ≤ p.2.2.2.1.toInt) (hk : spK p v = true) (w : Bool) : thr p.2.2.2.1 (if w then spG p v else spL p v) v h ≠ NO := by
  obtain ⟨h1, h2⟩ := sp_rng (p := p) (v := v) hg
  have h3 : spL p v ≤ spG p v := of_decide_eq_true hk
  rw [i_le] at h3
  have hx : ∀ x : Int32, -2000 ≤ x.toInt → x.toInt ≤ 2000 → thr p.2.2.2.1 x v h ≠ NO := by
    intro x hx1 hx2 z
    have hG := fb_rng p.2.2.2.1
    have hV := fb_rng (v * h)
    have eW : ∀ q : Int32, q.toInt64.toInt = q.toInt := fun q => Int32.toInt_toInt64 q
    have m1 : -2000 * 2147483648 ≤ x.toInt * p.2.2.2.1.toInt := by
      have a1 : -2000 * p.2.2.2.1.toInt ≤ x.toInt * p.2.2.2.1.toInt := Int.mul_le_mul_of_nonneg_right hx1 (by omega)
      omega
    have m2 : x.toInt * p.2.2.2.1.toInt ≤ 2000 * 2147483648 := by
      have a1 : x.toInt * p.2.2.2.1.toInt ≤ 2000 * p.2.2.2.1.toInt := Int.mul_le_mul_of_nonneg_right hx2 (by omega)
      omega
    have e1 : (x.toInt64 * p.2.2.2.1.toInt64).toInt = x.toInt * p.2.2.2.1.toInt := by
      rw [fb_mulL, eW, eW]
      · rw [eW, eW]; omega
      · rw [eW, eW]; omega
    have e2 : (thr p.2.2.2.1 x v h).toInt = x.toInt * p.2.2.2.1.toInt + (v * h).toInt := by
      unfold thr
      rw [fb_addL, e1, eW]
      · rw [e1, eW]; omega
      · rw [e1, eW]; omega
    rw [z, show NO.toInt = -9223372036854775808 from by decide] at e2
    omega
  cases w
  · exact hx (spL p v) h1 (by omega)
  · exact hx (spG p v) (by omega) h2
theorem ite_neJ {c : Prop} [Decidable c] {a b x : Int64} (h1 : a ≠ x) (h2 : ¬ c → b ≠ x) : (if c then a else b) ≠ x := by
  split
  · exact h1
  · rename_i h; exact h2 h
theorem edS_none {p : Lp} {h : Int32} {w : Bool} : ∀ {s : Nat}, anyS p s = false → edS p h w s = NO
  | 0, _ => rfl
  | s + 1, z => by
    rw [anyS, Bool.or_eq_false_iff] at z
    rw [edS, if_neg (by rw [z.2]; decide)]
    exact edS_none z.1
theorem edS_some {p : Lp} {h : Int32} {w : Bool} (hg : 1 ≤ p.2.2.2.1.toInt) : ∀ {s : Nat}, anyS p s = true → edS p h w s ≠ NO
  | 0, z => by simp [anyS] at z
  | s + 1, z => by
    rw [anyS, Bool.or_eq_true] at z
    rw [edS]
    by_cases hk : spK p (vs s) = true
    · rw [if_pos hk]
      exact ite_neJ (thr_ne hg hk w) (fun hz q => hz (Or.inl q))
    · rw [if_neg hk]
      rcases z with z | z
      · exact edS_some hg z
      · exact absurd z hk
theorem edS_F {p : Lp} {h : Int32} {w : Bool} {s : Nat} (hk : spK p (vs s) = true) (z : anyS p s = false) : edS p h w (s + 1) = thr p.2.2.2.1 (if w then spG p (vs s) else spL p (vs s)) (vs s) h := by
  rw [edS, if_pos hk, if_pos (Or.inl (edS_none z))]
theorem edS_L {p : Lp} {h : Int32} {s : Nat} (hg : 1 ≤ p.2.2.2.1.toInt) (hk : spK p (vs s) = true) (z : anyS p s = true) : edS p h false (s + 1) = if thr p.2.2.2.1 (spL p (vs s)) (vs s) h < edS p h false s then thr p.2.2.2.1 (spL p (vs s)) (vs s) h else edS p h false s := by
  rw [edS, if_pos hk]
  by_cases hc : thr p.2.2.2.1 (spL p (vs s)) (vs s) h < edS p h false s
  · rw [if_pos hc]
    exact if_pos (Or.inr hc)
  · rw [if_neg hc]
    exact if_neg (fun q => by
      rcases q with q | q
      · exact edS_some hg z q
      · exact hc q)
theorem edS_G {p : Lp} {h : Int32} {s : Nat} (hg : 1 ≤ p.2.2.2.1.toInt) (hk : spK p (vs s) = true) (z : anyS p s = true) : edS p h true (s + 1) = if thr p.2.2.2.1 (spG p (vs s)) (vs s) h < edS p h true s then edS p h true s else thr p.2.2.2.1 (spG p (vs s)) (vs s) h := by
  rw [edS, if_pos hk]
  by_cases hc : edS p h true s < thr p.2.2.2.1 (spG p (vs s)) (vs s) h
  · rw [show (if thr p.2.2.2.1 (spG p (vs s)) (vs s) h < edS p h true s then edS p h true s else thr p.2.2.2.1 (spG p (vs s)) (vs s) h) = thr p.2.2.2.1 (spG p (vs s)) (vs s) h from if_neg (fun q => by rw [j_lt] at hc q; omega)]
    exact if_pos (Or.inr hc)
  · have e : (if thr p.2.2.2.1 (spG p (vs s)) (vs s) h < edS p h true s then edS p h true s else thr p.2.2.2.1 (spG p (vs s)) (vs s) h) = edS p h true s := by
      split
      · rfl
      · rename_i h2
        rw [j_lt] at hc h2
        exact (j_eq _ _).mpr (by omega)
    rw [e]
    exact if_neg (fun q => by
      rcases q with q | q
      · exact edS_some hg z q
      · exact hc q)
theorem cn0_k {p : Lp} {v : Int32} (hg : 1 ≤ p.2.2.2.1.toInt) : cnI p v = 0 ↔ spK p v = false := by
  have h := cnI_rng (p := p) (v := v) hg
  rw [Bool.eq_false_iff, ne_eq, h.2.2, i_eq, show (0 : Int32).toInt = 0 from rfl]
  omega
set_option maxHeartbeats 4000000 in
set_option maxRecDepth 100000 in
theorem lp_X11_ahead0 {X : g_X} {Qr : Option Value → g_M → g_L → Prop} (C : Cx X cX11_ahead0 9 RX11 none 2) (hQ : Rx X Qr) {M : g_M} {L : g_L} {l : Nat} {r : Nat → Nat} {ax h : Int32} (hk : sok M l r) (hg : 1 ≤ (M 149 3).toInt) (hp : ∀ a b K, (anyS (mLp M ax r l) 41 = true → K 149 18 = edS (mLp M ax r l) h false 41 ∧ K 149 19 = edS (mLp M ax r l) h true 41) → Qr none (mn M a b) K) : ∀ (n i : Nat), i ≤ 41 → 41 < i + n → ∀ (a b : Int32) (K : g_L), (anyS (mLp M ax r l) i = true → K 149 18 = edS (mLp M ax r l) h false i ∧ K 149 19 = edS (mLp M ax r l) h true i) → wx X (mn M a b) K 6 [(0, .ref (X.1.1 + 149)), (1, .int ax), (2, .int h), (3, .int (bI (anyS (mLp M ax r l) i))), (4, .int (vs i))] [] := by
  intro n
  induction n with
  | zero =>
    intro i h1 h2
    exact absurd h2 (by omega)
  | succ n ih =>
    intro i hi0 hin a b K hK
    refine wx_iload C 4 dX11_ahead0_6 rfl ?_
    refine wx_bipush C 20 dX11_ahead0_8 (by decide) ?_
    refine wx_icmp_gt C 116 dX11_ahead0_10 (by decide) (fun c10 => ?_) (fun c10 => ?_)
    · have hs : i = 41 := (vs_gt hi0).mp c10
      refine wx_vret C hQ dX11_ahead0_116 ?_
      rw [hs] at hK
      exact hp a b K hK
    · have hs : i < 41 := by
        rw [vs_gt hi0] at c10
        omega
      refine wx_aload_n C 0 dX11_ahead0_13 rfl rfl ?_
      refine wx_iload_n C 1 dX11_ahead0_14 rfl rfl ?_
      refine wx_iload C 4 dX11_ahead0_15 rfl ?_
      refine ca_X11_120 C (rest := []) (t_lines2 X.1 M K hk hg a b ax (vs i)) (by decide) rfl (by decide) rfl rfl (Nat.le_of_ble_eq_true rfl) dX11_ahead0_17 (kI fun r17 M17 L17 q17 => ?_)
      obtain ⟨rfl, rfl, rfl⟩ := q17
      refine wx_if_ne C 26 dX11_ahead0_20 (by decide) (fun c20 => ?_) (fun c20 => ?_)
      · have hk1 : spK (mLp M ax r l) (vs i) = true := Bool.not_eq_false _ ▸ (fun z => c20 ((cn0_k (p := (mLp M ax r l)) (v := vs i) hg).mpr z))
        refine wx_aload_n C 0 dX11_ahead0_26 rfl rfl ?_
        refine gf_X11_114 C dX11_ahead0_27 ?_
        refine wx_i2l C dX11_ahead0_30 ?_
        refine wx_aload_n C 0 dX11_ahead0_31 rfl rfl ?_
        refine gf_X11_13 C dX11_ahead0_32 ?_
        refine wx_i2l C dX11_ahead0_35 ?_
        refine wx_lmul C dX11_ahead0_36 ?_
        refine wx_iload C 4 dX11_ahead0_37 rfl ?_
        refine wx_iload_n C 2 dX11_ahead0_39 rfl rfl ?_
        refine wx_imul C dX11_ahead0_40 ?_
        refine wx_i2l C dX11_ahead0_41 ?_
        refine wx_ladd C dX11_ahead0_42 ?_
        refine wx_nml (fun va hva => ?_)
        refine wx_lstore C [1, 2, 3, 4, 5, 0] [(0, .ref (X.1.1 + 149)), (1, .int ax), (2, .int h), (3, .int (bI (anyS (mLp M ax r l) i))), (4, .int (vs i)), (5, .long va)] dX11_ahead0_43 (by decide) rfl ?_
        refine wx_aload_n C 0 dX11_ahead0_45 rfl rfl ?_
        refine gf_X11_117 C dX11_ahead0_46 ?_
        refine wx_i2l C dX11_ahead0_49 ?_
        refine wx_aload_n C 0 dX11_ahead0_50 rfl rfl ?_
        refine gf_X11_13 C dX11_ahead0_51 ?_
        refine wx_i2l C dX11_ahead0_54 ?_
        refine wx_lmul C dX11_ahead0_55 ?_
        refine wx_iload C 4 dX11_ahead0_56 rfl ?_
        refine wx_iload_n C 2 dX11_ahead0_58 rfl rfl ?_
        refine wx_imul C dX11_ahead0_59 ?_
        refine wx_i2l C dX11_ahead0_60 ?_
        refine wx_ladd C dX11_ahead0_61 ?_
        refine wx_nml (fun vb hvb => ?_)
        refine wx_lstore C [1, 2, 3, 4, 5, 6, 0] [(0, .ref (X.1.1 + 149)), (1, .int ax), (2, .int h), (3, .int (bI (anyS (mLp M ax r l) i))), (4, .int (vs i)), (5, .long va), (7, .long vb)] dX11_ahead0_62 (by decide) rfl ?_
        refine wx_aload_n C 0 dX11_ahead0_64 rfl rfl ?_
        refine wx_iload_n C 3 dX11_ahead0_65 rfl rfl ?_
        refine wx_if_eq C 81 dX11_ahead0_66 (by decide) (fun c66 => ?_) (fun c66 => ?_)
        · refine wx_lload C 5 dX11_ahead0_81 rfl ?_
          refine pf_X11_135 C dX11_ahead0_83 ?_
          refine wx_aload_n C 0 dX11_ahead0_86 rfl rfl ?_
          refine wx_iload_n C 3 dX11_ahead0_87 rfl rfl ?_
          refine wx_if_eq C 103 dX11_ahead0_88 (by decide) (fun c88 => ?_) (fun c88 => absurd c88 (fun z => z c66))
          refine wx_lload C 6 dX11_ahead0_103 rfl ?_
          refine pf_X11_142 C dX11_ahead0_105 ?_
          refine wx_iconst C 1 dX11_ahead0_108 (by decide) ?_
          refine wx_istore_n C [1, 2, 3, 0, 4, 5, 6] [(0, .ref (X.1.1 + 149)), (1, .int ax), (2, .int h), (3, .int 1), (4, .int (vs i)), (5, .long va), (7, .long vb)] dX11_ahead0_109 rfl (by decide) rfl ?_
          refine wx_iinc C (v := (vs (i + 1))) 4 [1, 2, 3, 4, 0, 5, 6] [(0, .ref (X.1.1 + 149)), (1, .int ax), (2, .int h), (3, .int 1), (4, .int (vs (i + 1))), (5, .long va), (7, .long vb)] dX11_ahead0_110 rfl (vs_1 i) (by decide) rfl ?_
          refine wx_goto C 6 dX11_ahead0_113 (by decide) ?_
          have e1 : anyS (mLp M ax r l) (i + 1) = true := by rw [anyS, hk1, Bool.or_true]
          have q := ih (i + 1) (by omega) (by omega) (spL (mLp M ax r l) (vs i)) (spG (mLp M ax r l) (vs i)) (g_sl (g_sl K 149 18 va) 149 19 vb) (fun _ => ?_)
          · rw [e1] at q
            exact wx_sub [0, 1, 2, 3, 4] rfl q
          · have hz := bI_0.mp c66
            rw [edS_F hk1 hz, edS_F hk1 hz, hva, hvb]
            exact ⟨rfl, rfl⟩
        · refine wx_aload_n C 0 dX11_ahead0_69 rfl rfl ?_
          refine gf_X11_135 C dX11_ahead0_70 ?_
          refine wx_lload C 5 dX11_ahead0_73 rfl ?_
          refine wx_mminl C w4_216 w4_217 w1_13 w4_218 (by decide) (Nat.le_of_ble_eq_true rfl) dX11_ahead0_75 ?_
          refine wx_goto C 83 dX11_ahead0_78 (by decide) ?_
          refine pf_X11_135 C dX11_ahead0_83 ?_
          refine wx_aload_n C 0 dX11_ahead0_86 rfl rfl ?_
          refine wx_iload_n C 3 dX11_ahead0_87 rfl rfl ?_
          refine wx_if_eq C 103 dX11_ahead0_88 (by decide) (fun c88 => absurd c88 c66) (fun c88 => ?_)
          refine wx_aload_n C 0 dX11_ahead0_91 rfl rfl ?_
          refine gf_X11_142 C dX11_ahead0_92 ?_
          refine wx_lload C 6 dX11_ahead0_95 rfl ?_
          refine wx_mmaxl C w4_219 w4_220 w1_13 w4_221 (by decide) (Nat.le_of_ble_eq_true rfl) dX11_ahead0_97 ?_
          refine wx_goto C 105 dX11_ahead0_100 (by decide) ?_
          refine pf_X11_142 C dX11_ahead0_105 ?_
          refine wx_iconst C 1 dX11_ahead0_108 (by decide) ?_
          refine wx_istore_n C [1, 2, 3, 0, 4, 5, 6] [(0, .ref (X.1.1 + 149)), (1, .int ax), (2, .int h), (3, .int 1), (4, .int (vs i)), (5, .long va), (7, .long vb)] dX11_ahead0_109 rfl (by decide) rfl ?_
          refine wx_iinc C (v := (vs (i + 1))) 4 [1, 2, 3, 4, 0, 5, 6] [(0, .ref (X.1.1 + 149)), (1, .int ax), (2, .int h), (3, .int 1), (4, .int (vs (i + 1))), (5, .long va), (7, .long vb)] dX11_ahead0_110 rfl (vs_1 i) (by decide) rfl ?_
          refine wx_goto C 6 dX11_ahead0_113 (by decide) ?_
          have e1 : anyS (mLp M ax r l) (i + 1) = true := by rw [anyS, hk1, Bool.or_true]
          have q := ih (i + 1) (by omega) (by omega) (spL (mLp M ax r l) (vs i)) (spG (mLp M ax r l) (vs i)) (g_sl (g_sl K 149 18 (if va < (K 149 18) then va else (K 149 18))) 149 19 (if vb < ((g_sl K 149 18 (if va < (K 149 18) then va else (K 149 18))) 149 19) then ((g_sl K 149 18 (if va < (K 149 18) then va else (K 149 18))) 149 19) else vb)) (fun _ => ?_)
          · rw [e1] at q
            exact wx_sub [0, 1, 2, 3, 4] rfl q
          · have hz := bI_n0.mp c66
            have hz2 := hK hz
            rw [edS_L hg hk1 hz, edS_G hg hk1 hz, ← hz2.1, ← hz2.2, hva, hvb]
            exact ⟨rfl, rfl⟩
      · refine wx_goto C 110 dX11_ahead0_23 (by decide) ?_
        refine wx_iinc C (v := (vs (i + 1))) 4 [1, 2, 3, 4, 0] [(0, .ref (X.1.1 + 149)), (1, .int ax), (2, .int h), (3, .int (bI (anyS (mLp M ax r l) i))), (4, .int (vs (i + 1)))] dX11_ahead0_110 rfl (vs_1 i) (by decide) rfl ?_
        refine wx_goto C 6 dX11_ahead0_113 (by decide) ?_
        have hk0 := (cn0_k (p := (mLp M ax r l)) (v := vs i) hg).mp c20
        have e1 : anyS (mLp M ax r l) (i + 1) = anyS (mLp M ax r l) i := by rw [anyS, hk0, Bool.or_false]
        have e2 : ∀ w, edS (mLp M ax r l) h w (i + 1) = edS (mLp M ax r l) h w i := fun w => by rw [edS, if_neg (by rw [hk0]; decide)]
        have q := ih (i + 1) (by omega) (by omega) (spL (mLp M ax r l) (vs i)) (spG (mLp M ax r l) (vs i)) K (by rw [e1, e2, e2]; exact hK)
        rw [e1] at q
        exact q
set_option maxHeartbeats 4000000 in
set_option maxRecDepth 100000 in
theorem t_X11_ahead0 (G : g_G) (M : g_M) (L : g_L) {l : Nat} {r : Nat → Nat} (hk : sok M l r) (hg : 1 ≤ (M 149 3).toInt) (ax h : Int32) : mt G yX11_ahead0 (Cond.code yX11_ahead0 cX11_ahead0 9 none) 2 [.ref (G.1 + 149), .int ax, .int h] M L (qV fun M' L' => (∃ a b, M' = mn M a b) ∧ (anyS (mLp M ax r l) 41 = true → L' 149 18 = edS (mLp M ax r l) h false 41 ∧ L' 149 19 = edS (mLp M ax r l) h true 41)) := by
  refine mt_of (by decide) rfl (Nat.le_of_ble_eq_true rfl) [(0, .ref (G.1 + 149)), (1, .int ax), (2, .int h)] rfl (fun X hG C hQ => ?_)
  subst hG
  refine wx_iconst C 0 dX11_ahead0_0 (by decide) ?_
  refine wx_istore_n C [1, 2, 3, 0] [(0, .ref (X.1.1 + 149)), (1, .int ax), (2, .int h), (3, .int 0)] dX11_ahead0_1 rfl (by decide) rfl ?_
  refine wx_bipush C (-20) dX11_ahead0_2 (by decide) ?_
  refine wx_istore C [1, 2, 3, 4, 0] [(0, .ref (X.1.1 + 149)), (1, .int ax), (2, .int h), (3, .int 0), (4, .int (-20))] dX11_ahead0_4 (by decide) rfl ?_
  have q := lp_X11_ahead0 (L := L) (ax := ax) (h := h) C hQ hk hg (fun a b K hK => ⟨rfl, ⟨a, b, rfl⟩, hK⟩) 42 0 (by omega) (by omega) (M 149 16) (M 149 17) L (fun z => by simp [anyS] at z)
  rw [mn_self] at q
  exact q
/-! bits -/
def mnr (M : g_M) (a b : Nat) : Bool := decide (ab (M 151 b - M 151 a) ≤ M 149 2 * (M 150 b - M 150 a) ∧ ab (M 152 b - M 152 a) ≤ M 149 2 * (M 150 b - M 150 a))
set_option maxHeartbeats 4000000 in
set_option maxRecDepth 100000 in
theorem t_X11_isNear (G : g_G) (M : g_M) (L : g_L) {x y : Int32} {a b : Nat} (h1 : x = nI a) (ha : a < 60) (h2 : y = nI b) (hb : b < 60) : mt G yX11_isNear (Cond.code yX11_isNear cX11_isNear 4 (some .boolean)) 1 [.ref (G.1 + 149), .int x, .int y] M L (qI fun v M' L' => v = bI (mnr M a b) ∧ M = M' ∧ L = L') := by
  refine mt_of (by decide) rfl (Nat.le_of_ble_eq_true rfl) [(0, .ref (G.1 + 149)), (1, .int x), (2, .int y)] rfl (fun X hG C hQ => ?_)
  subst hG
  refine wx_aload_n C 0 dX11_isNear_0 rfl rfl ?_
  refine gf_X11_19 C dX11_isNear_1 ?_
  refine wx_iload_n C 2 dX11_isNear_4 rfl rfl ?_
  refine wx_iald C 150 b (by decide) (fun _ _ => rfl) (by decide) dX11_isNear_5 h2 hb ?_
  refine wx_aload_n C 0 dX11_isNear_6 rfl rfl ?_
  refine gf_X11_19 C dX11_isNear_7 ?_
  refine wx_iload_n C 1 dX11_isNear_10 rfl rfl ?_
  refine wx_iald C 150 a (by decide) (fun _ _ => rfl) (by decide) dX11_isNear_11 h1 ha ?_
  refine wx_isub C dX11_isNear_12 ?_
  refine wx_istore_n C [1, 2, 3, 0] [(0, .ref (X.1.1 + 149)), (1, .int x), (2, .int y), (3, .int ((M 150 b) - (M 150 a)))] dX11_isNear_13 rfl (by decide) rfl ?_
  refine wx_aload_n C 0 dX11_isNear_14 rfl rfl ?_
  refine gf_X11_23 C dX11_isNear_15 ?_
  refine wx_iload_n C 2 dX11_isNear_18 rfl rfl ?_
  refine wx_iald C 151 b (by decide) (fun _ _ => rfl) (by decide) dX11_isNear_19 h2 hb ?_
  refine wx_aload_n C 0 dX11_isNear_20 rfl rfl ?_
  refine gf_X11_23 C dX11_isNear_21 ?_
  refine wx_iload_n C 1 dX11_isNear_24 rfl rfl ?_
  refine wx_iald C 151 a (by decide) (fun _ _ => rfl) (by decide) dX11_isNear_25 h1 ha ?_
  refine wx_isub C dX11_isNear_26 ?_
  refine wx_mabs C w4_106 w2_128 w1_13 w2_129 (by decide) (Nat.le_of_ble_eq_true rfl) dX11_isNear_27 ?_
  refine wx_aload_n C 0 dX11_isNear_30 rfl rfl ?_
  refine gf_X11_7 C dX11_isNear_31 ?_
  refine wx_iload_n C 3 dX11_isNear_34 rfl rfl ?_
  refine wx_imul C dX11_isNear_35 ?_
  refine wx_icmp_gt C 68 dX11_isNear_36 (by decide) (fun c36 => ?_) (fun c36 => ?_)
  · refine wx_iconst C 0 dX11_isNear_68 (by decide) ?_
    refine wx_zret C hQ dX11_isNear_69 (by decide) ?_
    refine ⟨_, rfl, ?_, rfl, rfl⟩
    unfold mnr
    rw [decide_eq_false]
    · rfl
    · intro z
      first
      | exact absurd c36 (Int32.not_lt.mpr z.1)
      | exact absurd c61 (Int32.not_lt.mpr z.2)
  · refine wx_aload_n C 0 dX11_isNear_39 rfl rfl ?_
    refine gf_X11_26 C dX11_isNear_40 ?_
    refine wx_iload_n C 2 dX11_isNear_43 rfl rfl ?_
    refine wx_iald C 152 b (by decide) (fun _ _ => rfl) (by decide) dX11_isNear_44 h2 hb ?_
    refine wx_aload_n C 0 dX11_isNear_45 rfl rfl ?_
    refine gf_X11_26 C dX11_isNear_46 ?_
    refine wx_iload_n C 1 dX11_isNear_49 rfl rfl ?_
    refine wx_iald C 152 a (by decide) (fun _ _ => rfl) (by decide) dX11_isNear_50 h1 ha ?_
    refine wx_isub C dX11_isNear_51 ?_
    refine wx_mabs C w4_106 w2_128 w1_13 w2_129 (by decide) (Nat.le_of_ble_eq_true rfl) dX11_isNear_52 ?_
    refine wx_aload_n C 0 dX11_isNear_55 rfl rfl ?_
    refine gf_X11_7 C dX11_isNear_56 ?_
    refine wx_iload_n C 3 dX11_isNear_59 rfl rfl ?_
    refine wx_imul C dX11_isNear_60 ?_
    refine wx_icmp_gt C 68 dX11_isNear_61 (by decide) (fun c61 => ?_) (fun c61 => ?_)
    · refine wx_iconst C 0 dX11_isNear_68 (by decide) ?_
      refine wx_zret C hQ dX11_isNear_69 (by decide) ?_
      refine ⟨_, rfl, ?_, rfl, rfl⟩
      unfold mnr
      rw [decide_eq_false]
      · rfl
      · intro z
        first
        | exact absurd c36 (Int32.not_lt.mpr z.1)
        | exact absurd c61 (Int32.not_lt.mpr z.2)
    · refine wx_iconst C 1 dX11_isNear_64 (by decide) ?_
      refine wx_goto C 69 dX11_isNear_65 (by decide) ?_
      refine wx_zret C hQ dX11_isNear_69 (by decide) ?_
      refine ⟨_, rfl, ?_, rfl, rfl⟩
      unfold mnr
      rw [decide_eq_true]
      · rfl
      · exact ⟨Int32.not_lt.mp c36, Int32.not_lt.mp c61⟩
theorem hr_lt {a b : Int32} (ha : 0 ≤ a.toInt ∧ a.toInt ≤ 400) (hb : 0 ≤ b.toInt ∧ b.toInt ≤ 400) : 0 < b - a ↔ a < b := by
  rw [i_lt, i_lt, fb_subI (by omega) (by omega), show (0 : Int32).toInt = 0 from rfl]
  omega
theorem cn_ex {P Q : Nat → Bool} : ∀ {m : Nat}, (∀ i, i < m → ¬ (P i = true ∧ Q i = true)) → cn P m + cn Q m ≤ m
  | 0, _ => Nat.le_refl _
  | m + 1, h => by
    have h1 := cn_ex (P := P) (Q := Q) (m := m) (fun i hi => h i (by omega))
    have h2 := h m (by omega)
    rw [cn, cn]
    by_cases hp : P m = true
    · by_cases hq : Q m = true
      · exact absurd ⟨hp, hq⟩ h2
      · rw [if_pos hp, if_neg hq]; omega
    · rw [if_neg hp]
      split <;> omega
theorem rowl_cn (P : Nat → Nat → Bool) (a : Nat) : ∀ b, (rowl P a b).length = cn (P a) b
  | 0 => rfl
  | b + 1 => by
    rw [rowl, cn, List.length_append, rowl_cn P a b]
    split <;> rfl
theorem bl_up (P : Nat → Nat → Bool) (n : Nat) : ∀ a, (bl P (n + 1) a).length = (bl P n a).length + cn (fun i => P i n) a
  | 0 => rfl
  | a + 1 => by
    rw [bl, bl, List.length_append, List.length_append, bl_up P n a, rowl, List.length_append, cn]
    split <;> simp <;> omega
/-- of two dots at most one comes first -/
theorem bl_anti {P : Nat → Nat → Bool} : ∀ {n : Nat}, (∀ a b, a < n → b < n → P a b = true → ¬ P b a = true) → 2 * (bl P n n).length + n ≤ n * n
  | 0, _ => Nat.le_refl _
  | n + 1, h => by
    have h1 := bl_anti (P := P) (n := n) (fun a b x y => h a b (by omega) (by omega))
    have h2 := cn_ex (P := fun i => P i n) (Q := P n) (m := n) (fun i hi z => h i n (by omega) (by omega) z.1 z.2)
    have h3 : ¬ P n n = true := fun z => h n n (by omega) (by omega) z z
    have e : (bl P (n + 1) (n + 1)).length = (bl P n n).length + cn (fun i => P i n) n + cn (P n) n := by
      show (bl P (n + 1) n ++ (rowl P n n ++ if P n n then [(n, n)] else [])).length = _
      rw [if_neg h3, List.append_nil, List.length_append, bl_up, rowl_cn]
    have e3 : (n + 1) * (n + 1) = n * n + n * 1 + 1 * (n + 1) := by rw [Nat.add_mul, Nat.mul_add]
    rw [e, e3]
    omega
theorem bits_le {M : g_M} {n : Nat} (h60 : n ≤ 60) (ht : ∀ d, d < n → 0 ≤ (M 150 d).toInt ∧ (M 150 d).toInt ≤ 400) : (bl (mB M) n n).length ≤ 1770 := by
  have h := bl_anti (P := mB M) (n := n) (fun a b ha hb h1 h2 => by
    have z1 := (of_decide_eq_true h1).1
    have z2 := (of_decide_eq_true h2).1
    rw [hr_lt (ht a ha) (ht b hb), i_lt] at z1
    rw [hr_lt (ht b hb) (ht a ha), i_lt] at z2
    omega)
  have : n * n ≤ 59 * n + n := by
    have : n * n ≤ 60 * n := Nat.mul_le_mul_right n h60
    omega
  omega
/-- bits found -/
def bfO (M N : g_M) (B : List (Nat × Nat)) : Prop := frM M N ∧ N 149 22 = nI B.length ∧ ∀ q e, B[q]? = some e → N 160 q = nI e.1 ∧ N 161 q = nI e.2
theorem bfO.add {M N : g_M} {l : List (Nat × Nat)} (h : bfO M N l) (a b : Nat) : bfO M (g_st (g_st (g_st N 160 l.length (nI a)) 161 l.length (nI b)) 149 22 (nI (l.length + 1))) (l ++ [(a, b)]) := by
  obtain ⟨h1, h2, h3⟩ := h
  refine ⟨fun x y u v => ?_, ?_, fun q e he => ?_⟩
  · rw [g_st_ap, if_neg (by omega), g_st_ap, if_neg (by omega), g_st_ap, if_neg (by omega)]; exact h1 x y u v
  · rw [g_st_ap, if_pos ⟨rfl, rfl⟩]; simp
  · have e10 : g_st (g_st (g_st N 160 l.length (nI a)) 161 l.length (nI b)) 149 22 (nI (l.length + 1)) 160 q = if q = l.length then nI a else N 160 q := by simp [g_st_ap]
    have e11 : g_st (g_st (g_st N 160 l.length (nI a)) 161 l.length (nI b)) 149 22 (nI (l.length + 1)) 161 q = if q = l.length then nI b else N 161 q := by simp [g_st_ap]
    rw [e10, e11]
    by_cases hq : q = l.length
    · subst hq
      rw [List.getElem?_append_right (Nat.le_refl _), Nat.sub_self] at he
      cases he
      exact ⟨by rw [if_pos rfl], by rw [if_pos rfl]⟩
    · have hl : q < l.length := by
        have := (List.getElem?_eq_some_iff.mp he).1
        simp at this
        omega
      rw [List.getElem?_append_left hl] at he
      rw [if_neg hq, if_neg hq]
      exact h3 q e he
set_option maxHeartbeats 4000000 in
set_option maxRecDepth 100000 in
theorem lp_X11_findBits_i {X : g_X} {Qr : Option Value → g_M → g_L → Prop} (C : Cx X cX11_findBits 3 RX11 none 2) (hQ : Rx X Qr) {M : g_M} {L : g_L} {n a : Nat} (hn : M 149 0 = nI n) (h60 : n ≤ 60) (ht : ∀ d, d < n → 0 ≤ (M 150 d).toInt ∧ (M 150 d).toInt ≤ 400) (ha : a < n) (K : ∀ N, bfO M N (bl (mB M) n (a + 1)) → wx X N L 7 [(0, .ref (X.1.1 + 149)), (1, .int (nI (a + 1)))] []) : ∀ (k0 i : Nat), i ≤ n → n < i + k0 → ∀ (N : g_M), bfO M N (bl (mB M) n a ++ rowl (mB M) a i) → wx X N L 17 [(0, .ref (X.1.1 + 149)), (1, .int (nI a)), (2, .int (nI i))] [] := by
  intro k0
  induction k0 with
  | zero =>
    intro i h1 h2
    exact absurd h2 (by omega)
  | succ k0 ih =>
    intro i hi0 hin N hN
    have h98 : N 149 0 = nI n := by rw [hN.1 149 0 (by decide) (by decide)]; exact hn
    have hlen : N 149 22 = nI ((bl (mB M) n a).length + (rowl (mB M) a i).length) := by have := hN.2.1; rw [List.length_append] at this; exact this
    have e154 : N 154 = M 154 := hN.1.o 154 (by decide) (by decide)
    have e150 : N 150 = M 150 := hN.1.o 150 (by decide) (by decide)
    have enr : mnr N a i = mnr M a i := by unfold mnr; rw [e150, hN.1.o 151 (by decide) (by decide), hN.1.o 152 (by decide) (by decide), hN.1 149 2 (by decide) (by decide)]
    refine wx_iload_n C 2 dX11_findBits_17 rfl rfl ?_
    refine wx_aload_n C 0 dX11_findBits_18 rfl rfl ?_
    refine gf_X11_75 C dX11_findBits_19 ?_
    refine wx_icmp_ge C 121 dX11_findBits_22 (by decide) (fun c22 => ?_) (fun c22 => ?_)
    · have hib : i = n := by
        rw [h98] at c22
        exact Nat.le_antisymm hi0 ((nI_leI (by omega) (by omega)).mp c22)
      refine wx_iinc C (v := (nI (a + 1))) 1 [1, 0, 2] [(0, .ref (X.1.1 + 149)), (1, .int (nI (a + 1))), (2, .int (nI i))] dX11_findBits_121 rfl (nI_1 _) (by decide) rfl ?_
      refine wx_goto C 7 dX11_findBits_124 (by decide) ?_
      exact wx_sub [0, 1] rfl (K N (by rw [bl, ← hib]; rw [hib]; rw [hib] at hN; exact hN))
    · have hi : i < n := by
        rw [h98] at c22
        exact Nat.lt_of_not_le (fun h => c22 ((nI_leI (by omega) (by omega)).mpr h))
      refine wx_aload_n C 0 dX11_findBits_25 rfl rfl ?_
      refine gf_X11_32 C dX11_findBits_26 ?_
      refine wx_iload_n C 1 dX11_findBits_29 rfl rfl ?_
      refine wx_iald C 154 a (by decide) (fun _ _ => rfl) (by decide) dX11_findBits_30 rfl (by omega) ?_
      refine wx_iconst C (-1) dX11_findBits_31 (by decide) ?_
      refine wx_icmp_ne C 115 dX11_findBits_32 (by decide) (fun c32 => ?_) (fun c32 => ?_)
      · refine wx_iinc C (v := (nI (i + 1))) 2 [1, 2, 0] [(0, .ref (X.1.1 + 149)), (1, .int (nI a)), (2, .int (nI (i + 1)))] dX11_findBits_115 rfl (nI_1 _) (by decide) rfl ?_
        refine wx_goto C 17 dX11_findBits_118 (by decide) ?_
        have hf : mB M a i = false := decide_eq_false (fun z => by
          first
          | exact c32 (by rw [e154]; exact z.2.1)
          | exact c42 (by rw [e154]; exact z.2.2.1)
          | exact c55 (by rw [e150]; exact z.2.2.2.1)
          | (rw [e150] at c70; exact absurd ((hr_lt (ht a ha) (ht i hi)).mp z.1) (Int32.not_lt.mpr c70))
          | exact absurd (decide_eq_true z.2.2.2.2) (by rw [enr] at c79; exact Bool.eq_false_iff.mp (bI_0.mp c79)))
        refine ih (i + 1) (by omega) (by omega) _ ?_
        rw [rowl, if_neg (by rw [hf]; decide), List.append_nil]
        exact hN
      · refine wx_aload_n C 0 dX11_findBits_35 rfl rfl ?_
        refine gf_X11_32 C dX11_findBits_36 ?_
        refine wx_iload_n C 2 dX11_findBits_39 rfl rfl ?_
        refine wx_iald C 154 i (by decide) (fun _ _ => rfl) (by decide) dX11_findBits_40 rfl (by omega) ?_
        refine wx_iconst C (-1) dX11_findBits_41 (by decide) ?_
        refine wx_icmp_ne C 115 dX11_findBits_42 (by decide) (fun c42 => ?_) (fun c42 => ?_)
        · refine wx_iinc C (v := (nI (i + 1))) 2 [1, 2, 0] [(0, .ref (X.1.1 + 149)), (1, .int (nI a)), (2, .int (nI (i + 1)))] dX11_findBits_115 rfl (nI_1 _) (by decide) rfl ?_
          refine wx_goto C 17 dX11_findBits_118 (by decide) ?_
          have hf : mB M a i = false := decide_eq_false (fun z => by
            first
            | exact c32 (by rw [e154]; exact z.2.1)
            | exact c42 (by rw [e154]; exact z.2.2.1)
            | exact c55 (by rw [e150]; exact z.2.2.2.1)
            | (rw [e150] at c70; exact absurd ((hr_lt (ht a ha) (ht i hi)).mp z.1) (Int32.not_lt.mpr c70))
            | exact absurd (decide_eq_true z.2.2.2.2) (by rw [enr] at c79; exact Bool.eq_false_iff.mp (bI_0.mp c79)))
          refine ih (i + 1) (by omega) (by omega) _ ?_
          rw [rowl, if_neg (by rw [hf]; decide), List.append_nil]
          exact hN
        · refine wx_aload_n C 0 dX11_findBits_45 rfl rfl ?_
          refine wx_iload_n C 1 dX11_findBits_46 rfl rfl ?_
          refine ca_X11_92 C (rest := []) (t_X11_night X.1 N L (e := a) rfl (by omega)) (by decide) rfl (by decide) rfl rfl (Nat.le_of_ble_eq_true rfl) dX11_findBits_47 (kI fun r47 M47 L47 q47 => ?_)
          obtain ⟨rfl, rfl, rfl⟩ := q47
          refine wx_aload_n C 0 dX11_findBits_50 rfl rfl ?_
          refine wx_iload_n C 2 dX11_findBits_51 rfl rfl ?_
          refine ca_X11_92 C (rest := [.int (N 150 a / 24)]) (t_X11_night X.1 N L (e := i) rfl (by omega)) (by decide) rfl (by decide) rfl rfl (Nat.le_of_ble_eq_true rfl) dX11_findBits_52 (kI fun r52 M52 L52 q52 => ?_)
          obtain ⟨rfl, rfl, rfl⟩ := q52
          refine wx_icmp_ne C 115 dX11_findBits_55 (by decide) (fun c55 => ?_) (fun c55 => ?_)
          · refine wx_iinc C (v := (nI (i + 1))) 2 [1, 2, 0] [(0, .ref (X.1.1 + 149)), (1, .int (nI a)), (2, .int (nI (i + 1)))] dX11_findBits_115 rfl (nI_1 _) (by decide) rfl ?_
            refine wx_goto C 17 dX11_findBits_118 (by decide) ?_
            have hf : mB M a i = false := decide_eq_false (fun z => by
              first
              | exact c32 (by rw [e154]; exact z.2.1)
              | exact c42 (by rw [e154]; exact z.2.2.1)
              | exact c55 (by rw [e150]; exact z.2.2.2.1)
              | (rw [e150] at c70; exact absurd ((hr_lt (ht a ha) (ht i hi)).mp z.1) (Int32.not_lt.mpr c70))
              | exact absurd (decide_eq_true z.2.2.2.2) (by rw [enr] at c79; exact Bool.eq_false_iff.mp (bI_0.mp c79)))
            refine ih (i + 1) (by omega) (by omega) _ ?_
            rw [rowl, if_neg (by rw [hf]; decide), List.append_nil]
            exact hN
          · refine wx_aload_n C 0 dX11_findBits_58 rfl rfl ?_
            refine gf_X11_19 C dX11_findBits_59 ?_
            refine wx_iload_n C 1 dX11_findBits_62 rfl rfl ?_
            refine wx_iald C 150 a (by decide) (fun _ _ => rfl) (by decide) dX11_findBits_63 rfl (by omega) ?_
            refine wx_aload_n C 0 dX11_findBits_64 rfl rfl ?_
            refine gf_X11_19 C dX11_findBits_65 ?_
            refine wx_iload_n C 2 dX11_findBits_68 rfl rfl ?_
            refine wx_iald C 150 i (by decide) (fun _ _ => rfl) (by decide) dX11_findBits_69 rfl (by omega) ?_
            refine wx_icmp_ge C 115 dX11_findBits_70 (by decide) (fun c70 => ?_) (fun c70 => ?_)
            · refine wx_iinc C (v := (nI (i + 1))) 2 [1, 2, 0] [(0, .ref (X.1.1 + 149)), (1, .int (nI a)), (2, .int (nI (i + 1)))] dX11_findBits_115 rfl (nI_1 _) (by decide) rfl ?_
              refine wx_goto C 17 dX11_findBits_118 (by decide) ?_
              have hf : mB M a i = false := decide_eq_false (fun z => by
                first
                | exact c32 (by rw [e154]; exact z.2.1)
                | exact c42 (by rw [e154]; exact z.2.2.1)
                | exact c55 (by rw [e150]; exact z.2.2.2.1)
                | (rw [e150] at c70; exact absurd ((hr_lt (ht a ha) (ht i hi)).mp z.1) (Int32.not_lt.mpr c70))
                | exact absurd (decide_eq_true z.2.2.2.2) (by rw [enr] at c79; exact Bool.eq_false_iff.mp (bI_0.mp c79)))
              refine ih (i + 1) (by omega) (by omega) _ ?_
              rw [rowl, if_neg (by rw [hf]; decide), List.append_nil]
              exact hN
            · refine wx_aload_n C 0 dX11_findBits_73 rfl rfl ?_
              refine wx_iload_n C 1 dX11_findBits_74 rfl rfl ?_
              refine wx_iload_n C 2 dX11_findBits_75 rfl rfl ?_
              refine ca_X11_153 C (rest := []) (t_X11_isNear X.1 N L (a := a) (b := i) rfl (by omega) rfl (by omega)) (by decide) rfl (by decide) rfl rfl (Nat.le_of_ble_eq_true rfl) dX11_findBits_76 (kI fun r76 M76 L76 q76 => ?_)
              obtain ⟨rfl, rfl, rfl⟩ := q76
              refine wx_if_ne C 85 dX11_findBits_79 (by decide) (fun c79 => ?_) (fun c79 => ?_)
              · rw [enr] at c79
                have hf : mB M a i = true := by
                  rw [e154] at c32 c42
                  rw [e150] at c55 c70
                  have hz := of_decide_eq_true (bI_n0.mp c79)
                  exact decide_eq_true ⟨(hr_lt (ht a ha) (ht i hi)).mpr (Int32.not_le.mp c70), c32, c42, c55, hz.1, hz.2⟩
                have hlt := bl_lt ha hi hf
                have hmax := bits_le h60 ht
                refine wx_aload_n C 0 dX11_findBits_85 rfl rfl ?_
                refine gf_X11_51 C dX11_findBits_86 ?_
                refine wx_aload_n C 0 dX11_findBits_89 rfl rfl ?_
                refine gf_X11_150 C dX11_findBits_90 ?_
                refine wx_iload_n C 1 dX11_findBits_93 rfl rfl ?_
                refine wx_iast C 160 ((bl (mB M) n a).length + (rowl (mB M) a i).length) (by decide) (fun _ _ => rfl) (by decide) dX11_findBits_94 hlen (by omega) ?_
                refine wx_aload_n C 0 dX11_findBits_95 rfl rfl ?_
                refine gf_X11_54 C dX11_findBits_96 ?_
                refine wx_aload_n C 0 dX11_findBits_99 rfl rfl ?_
                refine gf_X11_150 C dX11_findBits_100 ?_
                refine wx_iload_n C 2 dX11_findBits_103 rfl rfl ?_
                refine wx_iast C 161 ((bl (mB M) n a).length + (rowl (mB M) a i).length) (by decide) (fun _ _ => rfl) (by decide) dX11_findBits_104 (by rw [g_st_ap, if_neg (by omega)]; exact hlen) (by omega) ?_
                refine wx_aload_n C 0 dX11_findBits_105 rfl rfl ?_
                refine wx_dup C dX11_findBits_106 rfl ?_
                refine gf_X11_150 C dX11_findBits_107 ?_
                refine wx_iconst C 1 dX11_findBits_110 (by decide) ?_
                refine wx_iadd C dX11_findBits_111 ?_
                refine pf_X11_150 C dX11_findBits_112 ?_
                refine wx_iinc C (v := (nI (i + 1))) 2 [1, 2, 0] [(0, .ref (X.1.1 + 149)), (1, .int (nI a)), (2, .int (nI (i + 1)))] dX11_findBits_115 rfl (nI_1 _) (by decide) rfl ?_
                refine wx_goto C 17 dX11_findBits_118 (by decide) ?_
                refine ih (i + 1) (by omega) (by omega) _ ?_
                have hz := hN.add a i
                rw [List.length_append] at hz
                rw [rowl, if_pos hf, ← List.append_assoc]
                have ez : g_st (g_st N 160 ((bl (mB M) n a).length + (rowl (mB M) a i).length) (nI a)) 161 ((bl (mB M) n a).length + (rowl (mB M) a i).length) (nI i) 149 22 + 1 = nI (((bl (mB M) n a).length + (rowl (mB M) a i).length) + 1) := by rw [g_st_ap, if_neg (by omega), g_st_ap, if_neg (by omega), hlen, nI_1]
                rw [ez]
                exact hz
              · refine wx_goto C 115 dX11_findBits_82 (by decide) ?_
                refine wx_iinc C (v := (nI (i + 1))) 2 [1, 2, 0] [(0, .ref (X.1.1 + 149)), (1, .int (nI a)), (2, .int (nI (i + 1)))] dX11_findBits_115 rfl (nI_1 _) (by decide) rfl ?_
                refine wx_goto C 17 dX11_findBits_118 (by decide) ?_
                have hf : mB M a i = false := decide_eq_false (fun z => by
                  first
                  | exact c32 (by rw [e154]; exact z.2.1)
                  | exact c42 (by rw [e154]; exact z.2.2.1)
                  | exact c55 (by rw [e150]; exact z.2.2.2.1)
                  | (rw [e150] at c70; exact absurd ((hr_lt (ht a ha) (ht i hi)).mp z.1) (Int32.not_lt.mpr c70))
                  | exact absurd (decide_eq_true z.2.2.2.2) (by rw [enr] at c79; exact Bool.eq_false_iff.mp (bI_0.mp c79)))
                refine ih (i + 1) (by omega) (by omega) _ ?_
                rw [rowl, if_neg (by rw [hf]; decide), List.append_nil]
                exact hN
set_option maxHeartbeats 4000000 in
set_option maxRecDepth 100000 in
theorem lp_X11_findBits {X : g_X} {Qr : Option Value → g_M → g_L → Prop} (C : Cx X cX11_findBits 3 RX11 none 2) (hQ : Rx X Qr) {M : g_M} {L : g_L} {n : Nat} (hn : M 149 0 = nI n) (h60 : n ≤ 60) (ht : ∀ d, d < n → 0 ≤ (M 150 d).toInt ∧ (M 150 d).toInt ≤ 400) (hp : ∀ N, bfO M N (bl (mB M) n n) → Qr none N L) : ∀ (k0 i : Nat), i ≤ n → n < i + k0 → ∀ (N : g_M), bfO M N (bl (mB M) n i) → wx X N L 7 [(0, .ref (X.1.1 + 149)), (1, .int (nI i))] [] := by
  intro k0
  induction k0 with
  | zero =>
    intro i h1 h2
    exact absurd h2 (by omega)
  | succ k0 ih =>
    intro i hi0 hin N hN
    have h98 : N 149 0 = nI n := by rw [hN.1 149 0 (by decide) (by decide)]; exact hn
    refine wx_iload_n C 1 dX11_findBits_7 rfl rfl ?_
    refine wx_aload_n C 0 dX11_findBits_8 rfl rfl ?_
    refine gf_X11_75 C dX11_findBits_9 ?_
    refine wx_icmp_ge C 127 dX11_findBits_12 (by decide) (fun c12 => ?_) (fun c12 => ?_)
    · have hib : i = n := by
        rw [h98] at c12
        exact Nat.le_antisymm hi0 ((nI_leI (by omega) (by omega)).mp c12)
      refine wx_vret C hQ dX11_findBits_127 ?_
      rw [hib] at hN
      exact hp N hN
    · have hi : i < n := by
        rw [h98] at c12
        exact Nat.lt_of_not_le (fun h => c12 ((nI_leI (by omega) (by omega)).mpr h))
      refine wx_iconst C 0 dX11_findBits_15 (by decide) ?_
      refine wx_istore_n C [1, 2, 0] [(0, .ref (X.1.1 + 149)), (1, .int (nI i)), (2, .int 0)] dX11_findBits_16 rfl (by decide) rfl ?_
      exact lp_X11_findBits_i C hQ hn h60 ht hi (fun N2 h2 => ih (i + 1) (by omega) (by omega) N2 h2) (n + 1) 0 (by omega) (by omega) N (by rw [rowl, List.append_nil]; exact hN)
set_option maxHeartbeats 4000000 in
set_option maxRecDepth 100000 in
theorem t_X11_findBits (G : g_G) (M : g_M) (L : g_L) {n : Nat} (hn : M 149 0 = nI n) (h60 : n ≤ 60) (ht : ∀ d, d < n → 0 ≤ (M 150 d).toInt ∧ (M 150 d).toInt ≤ 400) : mt G yX11_findBits (Cond.code yX11_findBits cX11_findBits 3 none) 2 [.ref (G.1 + 149)] M L (qV fun M' L' => L = L' ∧ bfO M M' (bl (mB M) n n)) := by
  refine mt_of (by decide) rfl (Nat.le_of_ble_eq_true rfl) [(0, .ref (G.1 + 149))] rfl (fun X hG C hQ => ?_)
  subst hG
  refine wx_aload_n C 0 dX11_findBits_0 rfl rfl ?_
  refine wx_iconst C 0 dX11_findBits_1 (by decide) ?_
  refine pf_X11_150 C dX11_findBits_2 ?_
  refine wx_iconst C 0 dX11_findBits_5 (by decide) ?_
  refine wx_istore_n C [1, 0] [(0, .ref (X.1.1 + 149)), (1, .int 0)] dX11_findBits_6 rfl (by decide) rfl ?_
  exact lp_X11_findBits C hQ hn h60 ht (fun N h => ⟨rfl, rfl, h⟩) (n + 1) 0 (by omega) (by omega) _ ⟨fun a b h1 h2 => by rw [g_st_ap, if_neg (by omega)], by rw [g_st_ap, if_pos ⟨rfl, rfl⟩]; rfl, fun q e h => by simp [bl] at h⟩
set_option maxHeartbeats 4000000 in
set_option maxRecDepth 100000 in
theorem t_X11_bits (G : g_G) (M : g_M) (L : g_L) {n e fa ac : Nat} {sz : Nat → Nat} {rr : Nat → Nat → Nat} {go : Nat → Bool} (hM : mI M n e fa ac sz rr go) : mt G yX11_bits (Cond.code yX11_bits cX11_bits 1 (some .int)) 3 [.ref (G.1 + 149)] M L (qI fun v M' L' => L = L' ∧ frM M M' ∧ v = nI (bl (mB M) n n).length) := by
  refine mt_of (by decide) rfl (Nat.le_of_ble_eq_true rfl) [(0, .ref (G.1 + 149))] rfl (fun X hG C hQ => ?_)
  subst hG
  refine wx_aload_n C 0 dX11_bits_0 rfl rfl ?_
  refine ca_X11_157 C (rest := []) (t_X11_findBits X.1 M L hM.hn hM.n60 (fun d => hM.t)) (by decide) rfl (by decide) rfl rfl (Nat.le_of_ble_eq_true rfl) dX11_bits_1 (kV fun M1 L1 q1 => ?_)
  obtain ⟨rfl, hB⟩ := q1
  have hmax := bits_le hM.n60 (fun d => hM.t)
  refine wx_aload_n C 0 dX11_bits_4 rfl rfl ?_
  refine gf_X11_150 C dX11_bits_5 ?_
  refine wx_iret C hQ dX11_bits_8 ?_
  exact ⟨_, rfl, rfl, hB.1, hB.2.1⟩
theorem in01 {k : Int32} (h : inW k 0 1 = true) : k = 0 ∨ k = 1 := by
  have h := of_decide_eq_true h
  rw [i_le, i_le, show (0 : Int32).toInt = 0 from rfl, show (1 : Int32).toInt = 1 from rfl] at h
  rw [i_eq, i_eq, show (0 : Int32).toInt = 0 from rfl, show (1 : Int32).toInt = 1 from rfl]
  omega
theorem getP_dn {l : List (Nat × Nat)} {x : Int32} (hl : l.length < 2 ^ 30) (h : dHas l.length x = false) : getP l x = none := by
  refine getP_no (fun q hq e => ?_)
  refine Nat.le_of_not_lt (fun hlt => ?_)
  have := of_decide_eq_false h
  rw [e] at this
  refine this ⟨?_, ?_⟩
  · rw [i_le, nI_toInt (by omega), show (0 : Int32).toInt = 0 from rfl]; omega
  · rw [i_lt, nI_toInt (by omega), nI_toInt (by omega)]; omega
theorem prV_n {l : List (Nat × Nat)} {x k : Int32} (hl : l.length < 2 ^ 30) (h : dHas l.length x = false) : prV l x k = -1 := by
  unfold prV
  rw [getP_dn hl h]
  split <;> rfl
theorem prV_q {l : List (Nat × Nat)} {q : Nat} {e : Nat × Nat} {k : Int32} (hq : q < 2 ^ 31) (h : l[q]? = some e) : prV l (nI q) k = if k = 0 then nI e.1 else if k = 1 then nI e.2 else -1 := by
  unfold prV
  rw [getP_n hq, h]
  by_cases hk : inW k 0 1 = true
  · rw [if_pos hk]
    rcases in01 hk with rfl | rfl <;> rfl
  · rw [if_neg hk, if_neg (fun z => hk (by rw [z]; decide)), if_neg (fun z => hk (by rw [z]; decide))]
set_option maxHeartbeats 4000000 in
set_option maxRecDepth 100000 in
theorem t_X11_bit (G : g_G) (M : g_M) (L : g_L) (x k : Int32) {n e fa ac : Nat} {sz : Nat → Nat} {rr : Nat → Nat → Nat} {go : Nat → Bool} (hM : mI M n e fa ac sz rr go) : mt G yX11_bit (Cond.code yX11_bit cX11_bit 3 (some .int)) 3 [.ref (G.1 + 149), .int x, .int k] M L (qI fun v M' L' => L = L' ∧ frM M M' ∧ v = prV (bl (mB M) n n) x k) := by
  refine mt_of (by decide) rfl (Nat.le_of_ble_eq_true rfl) [(0, .ref (G.1 + 149)), (1, .int x), (2, .int k)] rfl (fun X hG C hQ => ?_)
  subst hG
  refine wx_aload_n C 0 dX11_bit_0 rfl rfl ?_
  refine ca_X11_157 C (rest := []) (t_X11_findBits X.1 M L hM.hn hM.n60 (fun d => hM.t)) (by decide) rfl (by decide) rfl rfl (Nat.le_of_ble_eq_true rfl) dX11_bit_1 (kV fun M1 L1 q1 => ?_)
  obtain ⟨rfl, hB⟩ := q1
  have hmax := bits_le hM.n60 (fun d => hM.t)
  refine wx_iload_n C 1 dX11_bit_4 rfl rfl ?_
  refine wx_iconst C 0 dX11_bit_5 (by decide) ?_
  refine wx_aload_n C 0 dX11_bit_6 rfl rfl ?_
  refine gf_X11_150 C dX11_bit_7 ?_
  refine wx_iconst C 1 dX11_bit_10 (by decide) ?_
  refine wx_isub C dX11_bit_11 ?_
  refine ca_X11_78 C (rest := []) (t_X11_isIn X.1 M1 L x 0 (M1 149 22 - 1)) (by decide) rfl rfl (Nat.le_of_ble_eq_true rfl) dX11_bit_12 (kI fun r12 M12 L12 q12 => ?_)
  obtain ⟨rfl, rfl, rfl⟩ := q12
  refine wx_if_ne C 20 dX11_bit_15 (by decide) (fun c15 => ?_) (fun c15 => ?_)
  · have hin := bI_n0.mp c15
    rw [hB.2.1, inW_p (by omega)] at hin
    obtain ⟨q, hq, rfl⟩ := dHas_t (by omega) hin
    have he0 := getD_some hq
    have hq2 := hB.2.2 q _ he0
    refine wx_iload_n C 2 dX11_bit_20 rfl rfl ?_
    refine wx_if_ne C 33 dX11_bit_21 (by decide) (fun c21 => ?_) (fun c21 => ?_)
    · refine wx_iload_n C 2 dX11_bit_33 rfl rfl ?_
      refine wx_iconst C 1 dX11_bit_34 (by decide) ?_
      refine wx_icmp_ne C 47 dX11_bit_35 (by decide) (fun c35 => ?_) (fun c35 => ?_)
      · refine wx_iconst C (-1) dX11_bit_47 (by decide) ?_
        refine wx_iret C hQ dX11_bit_48 ?_
        refine ⟨_, rfl, rfl, hB.1, ?_⟩
        rw [prV_q (by omega) he0]
        rw [if_neg c21, if_neg c35]
      · refine wx_aload_n C 0 dX11_bit_38 rfl rfl ?_
        refine gf_X11_54 C dX11_bit_39 ?_
        refine wx_iload_n C 1 dX11_bit_42 rfl rfl ?_
        refine wx_iald C 161 q (by decide) (fun _ _ => rfl) (by decide) dX11_bit_43 rfl (by omega) ?_
        refine wx_goto C 48 dX11_bit_44 (by decide) ?_
        refine wx_iret C hQ dX11_bit_48 ?_
        refine ⟨_, rfl, rfl, hB.1, ?_⟩
        rw [prV_q (by omega) he0]
        rw [if_neg c21, if_pos c35]
        exact hq2.2
    · refine wx_aload_n C 0 dX11_bit_24 rfl rfl ?_
      refine gf_X11_51 C dX11_bit_25 ?_
      refine wx_iload_n C 1 dX11_bit_28 rfl rfl ?_
      refine wx_iald C 160 q (by decide) (fun _ _ => rfl) (by decide) dX11_bit_29 rfl (by omega) ?_
      refine wx_goto C 48 dX11_bit_30 (by decide) ?_
      refine wx_iret C hQ dX11_bit_48 ?_
      refine ⟨_, rfl, rfl, hB.1, ?_⟩
      rw [prV_q (by omega) he0]
      rw [if_pos c21]
      exact hq2.1
  · refine wx_iconst C (-1) dX11_bit_18 (by decide) ?_
    refine wx_iret C hQ dX11_bit_19 ?_
    refine ⟨_, rfl, rfl, hB.1, ?_⟩
    have hin := bI_0.mp c15
    rw [hB.2.1, inW_p (by omega)] at hin
    rw [prV_n (by omega) hin]
