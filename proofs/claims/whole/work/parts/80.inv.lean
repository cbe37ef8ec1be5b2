/-! ===== the invariant between both halves of the memory ===== -/
/-- paths: live, how long, their rows -/
abbrev pS : Type := (Nat → Bool) × (Nat → Nat) × (Nat → Nat → Nat)
/-- an act: its path, how the row was, whether the path came by it, which path it swallowed -/
abbrev aR : Type := Nat × Nat × (Nat → Nat) × Bool × Option Nat
def szF (c : pS) (p : Nat) : Nat := if c.1 p then c.2.1 p else 0
def goF (c : pS) (e p : Nat) : Bool := decide (p < e) && !c.1 p
def und (c : pS) (a : aR) : pS := (fun q => if q = a.1 ∧ a.2.2.2.1 = true then false else if a.2.2.2.2 = some q then true else c.1 q, fun q => if q = a.1 then a.2.1 else c.2.1 q, fun q => if q = a.1 then a.2.2.1 else c.2.2 q)
def pOK (c : pS) (n e : Nat) : Prop := (∀ p, c.1 p = true → p < e) ∧ (∀ p, p < 12 → c.2.1 p ≤ 8 ∧ ∀ i, i < c.2.1 p → c.2.2 p i < n) ∧ (∀ p, e ≤ p → p < 12 → c.2.1 p = 0) ∧ ∀ p q i j, c.1 p = true → c.1 q = true → i < c.2.1 p → j < c.2.1 q → c.2.2 p i = c.2.2 q j → p = q
def oOK (F : Nat → Int32) (c : pS) (n : Nat) : Prop := ∀ d, d < n → (∀ p i, c.1 p = true → i < c.2.1 p → c.2.2 p i = d → F d = nI p) ∧ ((∀ p i, c.1 p = true → i < c.2.1 p → c.2.2 p i ≠ d) → F d = -1)
def acT (M : g_M) (j : Nat) (a : aR) : Prop := M (56 + 3 * j) 0 = nI a.1 ∧ M (56 + 3 * j) 1 = bI a.2.2.2.1 ∧ rok M (57 + 3 * j) a.2.1 a.2.2.1 ∧ ((M (56 + 3 * j) 2 = -1 ∧ a.2.2.2.2 = none) ∨ ∃ g, a.2.2.2.2 = some g ∧ M (56 + 3 * j) 2 = nI g)
def aOK (c : pS) (a : aR) : Prop := a.1 < 12 ∧ a.2.1 ≤ 8 ∧ c.1 a.1 = true ∧ (a.2.2.2.1 = true → a.2.1 = 0) ∧ ∀ g, a.2.2.2.2 = some g → g < 12 ∧ g ≠ a.1
def snT (M : g_M) (k E : Nat) (c : pS) : Prop := M 164 k = nI E ∧ E ≤ 12 ∧ ∀ p, p < E → M 165 (12 * k + p) = nI (szF c p) ∧ M 167 (12 * k + p) = bI (!c.1 p) ∧ ∀ i, i < szF c p → M 166 ((12 * k + p) * 8 + i) = nI (c.2.2 p i)
def hst (M : g_M) (n e nx kp fa : Nat) (A : Nat → aR) (cs : Nat → pS) (Es : Nat → Nat) : Prop := ∀ i, i < kp → acT M ((nx + 29 - i) % 30) (A i) ∧ aOK (cs i) (A i) ∧ cs (i + 1) = und (cs i) (A i) ∧ snT M ((fa + (kp - 1 - i)) % 30) (Es i) (cs (i + 1)) ∧ pOK (cs (i + 1)) n (Es i) ∧ Es i ≤ e
def rfM (M : g_M) (n e kp fa : Nat) (c : pS) : Prop := (M 149 0 = nI n ∧ M 149 1 = nI e ∧ M 149 26 = nI kp ∧ M 149 27 = nI fa ∧ fa < 30) ∧ (M 149 2 = M 8 1 ∧ M 149 3 = M 7 1 ∧ M 149 4 = M 7 2) ∧ (M 150 = M 2 ∧ M 151 = M 3 ∧ M 152 = M 4 ∧ M 153 = M 5 ∧ M 154 = M 6) ∧ (∀ d, d < n → 0 ≤ (M 2 d).toInt ∧ (M 2 d).toInt ≤ 400) ∧ (∀ p, p < 12 → M 155 p = M (18 + 3 * p) 0 ∧ M (18 + 3 * p) 1 = bI (goF c e p) ∧ M 158 p = bI (goF c e p)) ∧ ∀ p, p < 12 → M 156 p = nI (szF c p) ∧ ∀ i, i < szF c p → M 157 (8 * p + i) = nI (c.2.2 p i)
def Iv (M : g_M) (n e nx kp fa : Nat) (c : pS) (A : Nat → aR) (cs : Nat → pS) (Es : Nat → Nat) : Prop := cI M n e nx kp c.2.1 c.2.2 ∧ rfM M n e kp fa c ∧ pOK c n e ∧ oOK (M 6) c n ∧ cs 0 = c ∧ hst M n e nx kp fa A cs Es
/-- there is such -/
def IvX (M : g_M) : Prop := ∃ n e nx kp fa c A cs Es, Iv M n e nx kp fa c A cs Es
def loE (M N : g_M) : Prop := ∀ a, a < 149 → N a = M a
def hiE (M N : g_M) : Prop := ∀ a, 149 ≤ a → N a = M a
/-- nothing that counts has changed -/
def qE (M N : g_M) : Prop := ∀ a b, ¬ (a = 7 ∧ (b = 3 ∨ b = 4)) → ¬ (a = 8 ∧ (b = 2 ∨ b = 3)) → a ≠ 9 → ¬ (10 ≤ a ∧ a ≤ 15) → a ≠ 147 → a ≠ 148 → ¬ (a = 149 ∧ (b = 15 ∨ b = 16 ∨ b = 17 ∨ b = 22 ∨ b = 25)) → ¬ (159 ≤ a ∧ a ≤ 163) → N a b = M a b
theorem frC.hi {M N : g_M} (h : frC M N) : hiE M N := fun a ha => by
  funext b
  exact h a b (by omega) (by omega) (by omega) (by omega) (by omega) (by omega)
theorem frM.lo {M N : g_M} (h : frM M N) : loE M N := fun a ha => by
  funext b
  exact h a b (by omega) (by omega)
theorem qE_of {M N K : g_M} (h : frC M N) (h2 : frM N K) : qE M K := fun a b h1 h3 h4 h5 h6 h7 h8 h9 => by
  rw [h2 a b h8 h9]
  exact h a b h1 h3 (by omega) h5 (by omega) h7
theorem qE.o {M N : g_M} (h : qE M N) (a : Nat) (h1 : a ≠ 7 := by omega) (h2 : a ≠ 8 := by omega) (h3 : a ≠ 9 := by omega) (h4 : ¬ (10 ≤ a ∧ a ≤ 15) := by omega) (h5 : a ≠ 147 := by omega) (h6 : a ≠ 148 := by omega) (h7 : a ≠ 149 := by omega) (h8 : ¬ (159 ≤ a ∧ a ≤ 163) := by omega) : N a = M a := by
  funext b
  exact h a b (by omega) (by omega) h3 h4 h5 h6 (by omega) h8
theorem rok.of {M N : g_M} {k l : Nat} {r : Nat → Nat} (h : rok M k l r) (h1 : N k = M k) (h2 : N (k + 1) = M (k + 1)) : rok N k l r := h.cg h1 h2
theorem chR_cg {M N : g_M} {n : Nat} (h : loE M N) (hc : chR M n) : chR N n := by
  have e2 := h 2 (by decide)
  have e3 := h 3 (by decide)
  have e4 := h 4 (by decide)
  have e6 := h 6 (by decide)
  have e7 := h 7 (by decide)
  have e8 := h 8 (by decide)
  have e9 := h 9 (by decide)
  have eB : cB N = cB M := by
    show bitP (N 2) (N 3) (N 4) (N 6) (N 8 1) = bitP (M 2) (M 3) (M 4) (M 6) (M 8 1)
    rw [e2, e3, e4, e6, e8]
  have eS : snd N = snd M := by
    funext r l
    show (anyS (N 2, plc (N 3) (N 4) 0, N 7 2, N 7 1, r, l) 41 && anyS (N 2, plc (N 3) (N 4) 1, N 7 2, N 7 1, r, l) 41) = (anyS (M 2, plc (M 3) (M 4) 0, M 7 2, M 7 1, r, l) 41 && anyS (M 2, plc (M 3) (M 4) 1, M 7 2, M 7 1, r, l) 41)
    rw [e2, e3, e4, e7]
  have eL : PLst N n = PLst M n := by
    unfold PLst
    rw [eB, eS, e2]
  unfold chR
  rw [eB, eL, e9, h 10 (by decide), h 11 (by decide), h 12 (by decide), h 13 (by decide)]
  exact hc
theorem cI_lo {M N : g_M} {n e nx kp : Nat} {ln : Nat → Nat} {rf : Nat → Nat → Nat} (h : cI M n e nx kp ln rf) (hl : loE M N) : cI N n e nx kp ln rf := by
  refine ⟨?_, h.n.2, ?_, h.e.2, fun p hp => ⟨(h.r hp).1.cg (hl _ (by omega)) (hl _ (by omega)), (h.r hp).2⟩, fun p h1 h2 => h.z h1 h2, ?_, ⟨?_, h.a.2.1, ?_, h.a.2.2.2⟩, ?_⟩
  · rw [hl 1 (by decide)]; exact h.n.1
  · rw [hl 16 (by decide)]; exact h.e.1
  · rw [hl 7 (by decide)]; exact h.g
  · rw [hl 54 (by decide)]; exact h.a.1
  · rw [hl 54 (by decide)]; exact h.a.2.2.1
  · rw [hl 9 (by decide)]
    rcases h.k with hk | ⟨hk, hc⟩
    · exact Or.inl hk
    · exact Or.inr ⟨hk, chR_cg hl hc⟩
theorem cI_gC {M N : g_M} {n e nx kp : Nat} {ln : Nat → Nat} {rf : Nat → Nat → Nat} (h : cI M n e nx kp ln rf) (hg : gC M N n) : cI N n e nx kp ln rf := by
  refine ⟨?_, h.n.2, hg.1.e h.e.1, h.e.2, fun p hp => ⟨hg.1.w hp (h.r hp).1, (h.r hp).2⟩, fun p h1 h2 => h.z h1 h2, hg.1.g h.g, hg.1.a h.a, hg.2⟩
  rw [hg.1.o 1 (by decide) (by decide) (by decide) (by decide) (by decide) (by decide)]
  exact h.n.1
theorem rfM.q {M N : g_M} {n e kp fa : Nat} {c : pS} (h : rfM M n e kp fa c) (q : qE M N) : rfM N n e kp fa c := by
  obtain ⟨⟨a1, a2, a3, a4, a5⟩, ⟨b1, b2, b3⟩, ⟨c1, c2, c3, c4, c5⟩, d1, e1, f1⟩ := h
  have h149 : ∀ b, b ≠ 15 → b ≠ 16 → b ≠ 17 → b ≠ 22 → b ≠ 25 → N 149 b = M 149 b := fun b h1 h2 h3 h4 h5 => q 149 b (by omega) (by omega) (by omega) (by omega) (by omega) (by omega) (by omega) (by omega)
  have e81 : N 8 1 = M 8 1 := q 8 1 (by omega) (by omega) (by omega) (by omega) (by omega) (by omega) (by omega) (by omega)
  have e71 : N 7 1 = M 7 1 := q 7 1 (by omega) (by omega) (by omega) (by omega) (by omega) (by omega) (by omega) (by omega)
  have e72 : N 7 2 = M 7 2 := q 7 2 (by omega) (by omega) (by omega) (by omega) (by omega) (by omega) (by omega) (by omega)
  refine ⟨⟨?_, ?_, ?_, ?_, a5⟩, ⟨?_, ?_, ?_⟩, ⟨?_, ?_, ?_, ?_, ?_⟩, ?_, fun p hp => ?_, fun p hp => ?_⟩
  · rw [h149 0 (by decide) (by decide) (by decide) (by decide) (by decide)]; exact a1
  · rw [h149 1 (by decide) (by decide) (by decide) (by decide) (by decide)]; exact a2
  · rw [h149 26 (by decide) (by decide) (by decide) (by decide) (by decide)]; exact a3
  · rw [h149 27 (by decide) (by decide) (by decide) (by decide) (by decide)]; exact a4
  · rw [h149 2 (by decide) (by decide) (by decide) (by decide) (by decide), e81]; exact b1
  · rw [h149 3 (by decide) (by decide) (by decide) (by decide) (by decide), e71]; exact b2
  · rw [h149 4 (by decide) (by decide) (by decide) (by decide) (by decide), e72]; exact b3
  · rw [q.o 150, q.o 2]; exact c1
  · rw [q.o 151, q.o 3]; exact c2
  · rw [q.o 152, q.o 4]; exact c3
  · rw [q.o 153, q.o 5]; exact c4
  · rw [q.o 154, q.o 6]; exact c5
  · rw [q.o 2]; exact d1
  · rw [q.o 155, q.o (18 + 3 * p), q.o 158]; exact e1 p hp
  · rw [q.o 156, q.o 157]; exact f1 p hp
theorem acT.mv {M N : g_M} {j : Nat} {a : aR} (h : acT M j a) (h1 : N (56 + 3 * j) = M (56 + 3 * j)) (h2 : N (57 + 3 * j) = M (57 + 3 * j)) (h3 : N (57 + 3 * j + 1) = M (57 + 3 * j + 1)) : acT N j a := by
  unfold acT
  rw [h1]
  exact ⟨h.1, h.2.1, h.2.2.1.cg h2 h3, h.2.2.2⟩
theorem hst.q {M N : g_M} {n e nx kp fa : Nat} {A : Nat → aR} {cs : Nat → pS} {Es : Nat → Nat} (h : hst M n e nx kp fa A cs Es) (q : qE M N) : hst N n e nx kp fa A cs Es := by
  intro i hi
  obtain ⟨h1, h2, h3, h4, h5, h6⟩ := h i hi
  refine ⟨h1.mv (q.o _) (q.o _) (q.o _), h2, h3, ?_, h5, h6⟩
  unfold snT
  rw [q.o 164, q.o 165, q.o 166, q.o 167]
  exact h4
theorem Iv.q {M N K : g_M} {n e nx kp fa : Nat} {c : pS} {A : Nat → aR} {cs : Nat → pS} {Es : Nat → Nat} (h : Iv M n e nx kp fa c A cs Es) (hg : gC M N n) (hf : frM N K) : Iv K n e nx kp fa c A cs Es := by
  have q := qE_of hg.1 hf
  refine ⟨cI_lo (cI_gC h.1 hg) hf.lo, h.2.1.q q, h.2.2.1, ?_, h.2.2.2.2.1, h.2.2.2.2.2.q q⟩
  rw [q.o 6]
  exact h.2.2.2.1
section IV
variable {M N : g_M} {n e nx kp fa : Nat} {c : pS} {A : Nat → aR} {cs : Nat → pS} {Es : Nat → Nat}
theorem szF_le (hp : pOK c n e) {p : Nat} (h : p < 12) : szF c p ≤ 8 ∧ ∀ i, i < szF c p → c.2.2 p i < n := by
  unfold szF
  split
  · exact hp.2.1 p h
  · exact ⟨by omega, fun i hi => by omega⟩
theorem Iv.m (h : Iv M n e nx kp fa c A cs Es) : mI M n e fa kp (szF c) c.2.2 (goF c e) := by
  obtain ⟨hC, ⟨⟨a1, a2, a3, a4, a5⟩, ⟨b1, b2, b3⟩, ⟨c1, c2, c3, c4, c5⟩, d1, e1, f1⟩, hp, ho, h0, hh⟩ := h
  have hn := hC.n.2
  refine ⟨a1, hn, a2, hC.e.2, fun p hp2 => ⟨(f1 p hp2).1, (szF_le hp hp2).1, fun i hi => ⟨(f1 p hp2).2 i hi, by have := (szF_le hp hp2).2 i hi; omega⟩⟩, fun p hp2 => (e1 p hp2).2.2, ?_, a3, hC.a.2.2.2, a4, a5, fun d hd => ?_⟩
  · rw [b2]; exact hC.g
  · rw [c1]; exact d1 d hd
theorem mI.hi {sz : Nat → Nat} {rr : Nat → Nat → Nat} {go : Nat → Bool} (h : mI M n e fa kp sz rr go) (q : hiE M N) : mI N n e fa kp sz rr go := by
  refine ⟨?_, h.n60, ?_, h.e12, fun p hp => ?_, fun p hp => ?_, ?_, ?_, h.ac30, ?_, h.fa30, fun d hd => ?_⟩
  · rw [q 149 (by decide)]; exact h.hn
  · rw [q 149 (by decide)]; exact h.he
  · unfold mrw; rw [q 156 (by decide), q 157 (by decide)]; exact h.r hp
  · rw [q 158 (by decide)]; exact h.hgo hp
  · rw [q 149 (by decide)]; exact h.g
  · rw [q 149 (by decide)]; exact h.hac
  · rw [q 149 (by decide)]; exact h.hfa
  · rw [q 150 (by decide)]; exact h.t hd
theorem Iv.eP (h : Iv M n e nx kp fa c A cs Es) (q : hiE M N) (ax : Int32) (r : Nat → Nat) (l : Nat) : mLp N ax r l = cLp M ax r l := by
  obtain ⟨-, ⟨-, ⟨b1, b2, b3⟩, ⟨c1, c2, c3, c4, c5⟩, -⟩, -⟩ := h
  show (N 150, plc (N 151) (N 152) ax, N 149 4, N 149 3, r, l) = (M 2, plc (M 3) (M 4) ax, M 7 2, M 7 1, r, l)
  rw [q 150 (by decide), q 151 (by decide), q 152 (by decide), q 149 (by decide), c1, c2, c3, b2, b3]
theorem Iv.eS (h : Iv M n e nx kp fa c A cs Es) (q : hiE M N) : msnd N = snd M := by
  funext r l
  show (anyS (mLp N 0 r l) 41 && anyS (mLp N 1 r l) 41) = (anyS (cLp M 0 r l) 41 && anyS (cLp M 1 r l) 41)
  rw [h.eP q, h.eP q]
theorem Iv.eB (h : Iv M n e nx kp fa c A cs Es) (q : hiE M N) : mB N = cB M := by
  obtain ⟨-, ⟨-, ⟨b1, b2, b3⟩, ⟨c1, c2, c3, c4, c5⟩, -⟩, -⟩ := h
  show bitP (N 150) (N 151) (N 152) (N 154) (N 149 2) = bitP (M 2) (M 3) (M 4) (M 6) (M 8 1)
  rw [q 150 (by decide), q 151 (by decide), q 152 (by decide), q 154 (by decide), q 149 (by decide), c1, c2, c3, c5, b1]
theorem Iv.eL (h : Iv M n e nx kp fa c A cs Es) (q : hiE M N) : mPL N n = PLst M n := by
  have e1 : N 150 = M 2 := (q 150 (by decide)).trans h.2.1.2.2.1.1
  unfold mPL PLst
  rw [h.eB q, h.eS q, e1]
theorem Iv.eE (h : Iv M n e nx kp fa c A cs Es) (q : hiE M N) : mplE N n = plE M n := by
  unfold mplE plE
  rw [h.eB q, h.eL q]
theorem Iv.go (h : Iv M n e nx kp fa c A cs Es) {p : Nat} (hp : p < 12) : M (18 + 3 * p) 1 = bI (goF c e p) ∧ M 158 p = bI (goF c e p) := (h.2.1.2.2.2.2.1 p hp).2
/-- what one half calls a path the other does too -/
theorem Iv.has (h : Iv M n e nx kp fa c A cs Es) (q : hiE M N) (x : Int32) : mHas N e x = cHas M x := by
  unfold mHas cHas
  rw [q 158 (by decide), h.1.e.1]
  show (dHas e x && _) = (dHas e x && _)
  cases hd : dHas e x
  · rfl
  · obtain ⟨p, hp, rfl⟩ := dHas_t (by have := h.1.e.2; omega) hd
    have hp12 : p < 12 := by have := h.1.e.2; omega
    rw [nI_clamp (by omega), (h.go hp12).1, (h.go hp12).2]
theorem Iv.live (h : Iv M n e nx kp fa c A cs Es) {p : Nat} (hp : p < e) (hg : M (18 + 3 * p) 1 = 0) : c.1 p = true := by
  have hp12 : p < 12 := by have := h.1.e.2; omega
  rw [(h.go hp12).1, bI_0] at hg
  unfold goF at hg
  rw [decide_eq_true hp, Bool.true_and] at hg
  cases hl : c.1 p
  · rw [hl] at hg; cases hg
  · rfl
theorem Iv.sz (h : Iv M n e nx kp fa c A cs Es) {p : Nat} (hp : p < e) (hg : M (18 + 3 * p) 1 = 0) : szF c p = c.2.1 p := by
  unfold szF
  rw [h.live hp hg, if_pos rfl]
theorem Iv.e12 (h : Iv M n e nx kp fa c A cs Es) : e ≤ 12 := h.1.e.2
end IV
