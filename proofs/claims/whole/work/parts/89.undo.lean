/-! ===== undo ===== -/
section UN
variable {M : g_M} {j kp p lb : Nat} {rb : Nat → Nat} {sw : Option Nat} {ln : Nat → Nat} {rf : Nat → Nat → Nat}
theorem un2_ap {a : Nat} (b : Nat) (h6 : a ≠ 6) : un2 M j kp p lb rb ln rf a b = if a = 19 + 3 * p ∧ b = 1 then nI lb else if a = 19 + 3 * p + 1 ∧ b < lb then M (58 + 3 * j) b else if a = 54 ∧ b = 2 then nI (kp - 1) else if a = 54 ∧ b = 1 then nI j else M a b := by
  unfold un2 rpl
  rw [pa_out _ _ _ _ h6]
  unfold g_sr
  rw [pa_out _ _ _ _ h6]
  unfold un1
  rw [g_st_ap, g_st_ap]
theorem un3_ap {a : Nat} (b : Nat) (h : ¬ (a = 18 + 3 * p ∧ b = 1)) : un3 M j kp p lb rb ln rf a b = un2 M j kp p lb rb ln rf a b := by
  unfold un3
  split
  · rfl
  · rw [g_st_ap, if_neg h]
theorem undM_ap {a : Nat} (b : Nat) (hp : p < 12) (hs : ∀ g, sw = some g → g < 12) (h6 : a ≠ 6) (h9 : ¬ (a = 9 ∧ b = 10)) (hw : ∀ q, q < 12 → ¬ (a = 18 + 3 * q ∧ b = 1)) : undM M j kp p lb rb sw ln rf a b = un2 M j kp p lb rb ln rf a b := by
  unfold undM
  rw [g_st_ap, if_neg h9]
  cases sw with
  | none => exact un3_ap b (hw p hp)
  | some g =>
    show pa (g_st (un3 M j kp p lb rb ln rf) (18 + 3 * g) 1 0) (rf g) (nI g) (ln g) a b = _
    rw [pa_out _ _ _ _ h6, g_st_ap, if_neg (hw g (hs g rfl))]
    exact un3_ap b (hw p hp)
theorem undM_w (hp : p < 12) (hsp : sw ≠ some p) {q : Nat} (hq : q < 12) : undM M j kp p lb rb sw ln rf (18 + 3 * q) 1 = if sw = some q then 0 else if q = p ∧ ¬ M (56 + 3 * j) 1 = 0 then 1 else M (18 + 3 * q) 1 := by
  have e3 : un3 M j kp p lb rb ln rf (18 + 3 * q) 1 = if q = p ∧ ¬ M (56 + 3 * j) 1 = 0 then 1 else M (18 + 3 * q) 1 := by
    have e2 : un2 M j kp p lb rb ln rf (18 + 3 * q) 1 = M (18 + 3 * q) 1 := by rw [un2_ap _ (by omega), if_neg (by omega), if_neg (by omega), if_neg (by omega), if_neg (by omega)]
    unfold un3
    by_cases hb : M (56 + 3 * j) 1 = 0
    · rw [if_pos hb, e2, if_neg (fun z => z.2 hb)]
    · rw [if_neg hb, g_st_ap]
      by_cases hqp : q = p
      · rw [if_pos ⟨by omega, rfl⟩, if_pos ⟨hqp, hb⟩]
      · rw [if_neg (by omega), if_neg (fun z => hqp z.1), e2]
  unfold undM
  rw [g_st_ap, if_neg (by omega)]
  cases sw with
  | none =>
    rw [if_neg (by simp)]
    exact e3
  | some g =>
    show pa (g_st (un3 M j kp p lb rb ln rf) (18 + 3 * g) 1 0) (rf g) (nI g) (ln g) (18 + 3 * q) 1 = _
    rw [pa_out _ _ _ _ (by omega), g_st_ap]
    by_cases hqg : q = g
    · rw [if_pos ⟨by omega, rfl⟩, if_pos (by rw [hqg])]
    · rw [if_neg (by omega), if_neg (by intro z; cases z; exact hqg rfl)]
      exact e3
theorem undM_6 (hp : p < 12) : (∀ g d, sw = some g → (∃ q, q < ln g ∧ rf g q = d) → undM M j kp p lb rb sw ln rf 6 d = nI g) ∧ ∀ d, (∀ g q, sw = some g → q < ln g → rf g q ≠ d) → ((∃ q, q < lb ∧ rb q = d) → undM M j kp p lb rb sw ln rf 6 d = nI p) ∧ ((∀ q, q < lb → rb q ≠ d) → ((∃ q, q < ln p ∧ rf p q = d) → undM M j kp p lb rb sw ln rf 6 d = -1) ∧ ((∀ q, q < ln p → rf p q ≠ d) → undM M j kp p lb rb sw ln rf 6 d = M 6 d)) := by
  have e0 : ∀ d, undM M j kp p lb rb sw ln rf 6 d = un4 M j kp p lb rb sw ln rf 6 d := fun d => by
    unfold undM
    rw [g_st_ap, if_neg (by omega)]
  have e3 : ∀ d, un3 M j kp p lb rb ln rf 6 d = un2 M j kp p lb rb ln rf 6 d := fun d => un3_ap d (by omega)
  have e4 : ∀ d, (∀ g q, sw = some g → q < ln g → rf g q ≠ d) → un4 M j kp p lb rb sw ln rf 6 d = un2 M j kp p lb rb ln rf 6 d := fun d hd => by
    cases sw with
    | none => exact e3 d
    | some g =>
      show pa (g_st (un3 M j kp p lb rb ln rf) (18 + 3 * g) 1 0) (rf g) (nI g) (ln g) 6 d = _
      rw [pa_no _ _ _ _ (fun q hq => hd g q rfl hq), g_st_ap, if_neg (by omega)]
      exact e3 d
  refine ⟨fun g d hg hd => ?_, fun d hd => ⟨fun h1 => ?_, fun h1 => ⟨fun h2 => ?_, fun h2 => ?_⟩⟩⟩
  · subst hg
    rw [e0]
    exact pa_in _ _ _ _ hd
  · rw [e0, e4 d hd]
    exact pa_in _ _ _ _ h1
  · rw [e0, e4 d hd]
    unfold un2 rpl
    rw [pa_no _ _ _ _ h1, g_sr_out _ _ _ _ _ (by omega) (by omega)]
    exact pa_in _ _ _ _ h2
  · rw [e0, e4 d hd]
    unfold un2 rpl
    rw [pa_no _ _ _ _ h1, g_sr_out _ _ _ _ _ (by omega) (by omega), pa_no _ _ _ _ h2, un1_o M (by decide)]
theorem undM_o (hp : p < 12) {a : Nat} (h6 : a ≠ 6) (h9 : a ≠ 9) (h54 : a ≠ 54) (h1 : a ≠ 19 + 3 * p) (h2 : a ≠ 20 + 3 * p) (hw : ∀ q, q < 12 → a ≠ 18 + 3 * q) (hs : ∀ g, sw = some g → g < 12) : undM M j kp p lb rb sw ln rf a = M a := by
  funext b
  by_cases hb : ∃ q, q < 12 ∧ a = 18 + 3 * q ∧ b = 1
  · -- no path stands there
    have e3 : un3 M j kp p lb rb ln rf a b = M a b := by
      rw [un3_ap b (fun z => hw p hp z.1), un2_ap _ h6, if_neg (by omega), if_neg (by omega), if_neg (by omega), if_neg (by omega)]
    unfold undM
    rw [g_st_ap, if_neg (by omega)]
    cases sw with
    | none => exact e3
    | some g =>
      show pa (g_st (un3 M j kp p lb rb ln rf) (18 + 3 * g) 1 0) (rf g) (nI g) (ln g) a b = _
      rw [pa_out _ _ _ _ h6, g_st_ap, if_neg (fun z => hw g (hs g rfl) z.1)]
      exact e3
  · rw [undM_ap b hp hs h6 (by omega) (fun q hq z => hb ⟨q, hq, z⟩), un2_ap _ h6, if_neg (by omega), if_neg (by omega), if_neg (by omega), if_neg (by omega)]
end UN
theorem und_own {F H : Nat → Int32} {c : pS} {a : aR} {n e E : Nat} (hp : pOK c n e) (ho : oOK F c n) (ha : aOK c a) (hp2 : pOK (und c a) n E)
  (g1 : ∀ g d, a.2.2.2.2 = some g → (∃ q, q < c.2.1 g ∧ c.2.2 g q = d) → H d = nI g)
  (g2 : ∀ d, (∀ g q, a.2.2.2.2 = some g → q < c.2.1 g → c.2.2 g q ≠ d) → ((∃ q, q < a.2.1 ∧ a.2.2.1 q = d) → H d = nI a.1) ∧ ((∀ q, q < a.2.1 → a.2.2.1 q ≠ d) → ((∃ q, q < c.2.1 a.1 ∧ c.2.2 a.1 q = d) → H d = -1) ∧ ((∀ q, q < c.2.1 a.1 → c.2.2 a.1 q ≠ d) → H d = F d))) : oOK H (und c a) n := by
  obtain ⟨p, lb, rb, bo, sw⟩ := a
  obtain ⟨a1, a2, a3, a4, a5⟩ := ha
  dsimp only at a1 a2 a3 a4 a5 g1 g2
  have lvd : ∀ q, (und c (p, lb, rb, bo, sw)).1 q = if q = p ∧ bo = true then false else if sw = some q then true else c.1 q := fun q => rfl
  have lnd : ∀ q, q ≠ p → (und c (p, lb, rb, bo, sw)).2.1 q = c.2.1 q := fun q z => if_neg z
  have rfd : ∀ q, q ≠ p → (und c (p, lb, rb, bo, sw)).2.2 q = c.2.2 q := fun q z => if_neg z
  have lnp : (und c (p, lb, rb, bo, sw)).2.1 p = lb := if_pos rfl
  have rfp : (und c (p, lb, rb, bo, sw)).2.2 p = rb := if_pos rfl
  have hlg : ∀ g, sw = some g → (und c (p, lb, rb, bo, sw)).1 g = true := fun g z => by
    rw [lvd, if_neg (fun y => (a5 g z).2 y.1), if_pos z]
  have hlp : bo = false → (und c (p, lb, rb, bo, sw)).1 p = true := fun z => by
    rw [lvd, if_neg (fun y => by rw [z] at y; cases y.2)]
    split
    · rfl
    · exact a3
  -- p's row of before: empty, or p is live then
  have rbl : ∀ k, k < lb → (und c (p, lb, rb, bo, sw)).1 p = true := fun k hk => by
    cases bo
    · exact hlp rfl
    · have := a4 rfl
      omega
  refine fun d hd => ⟨fun q i hq hi he => ?_, fun hno => ?_⟩
  · by_cases hqg : sw = some q
    · have hqp : q ≠ p := (a5 q hqg).2
      rw [lnd q hqp] at hi
      rw [rfd q hqp] at he
      exact g1 q d hqg ⟨i, hi, he⟩
    · have nog : ∀ g k, sw = some g → k < c.2.1 g → c.2.2 g k ≠ d := fun g k z hk hz => by
        have hgp : g ≠ p := (a5 g z).2
        have := hp2.2.2.2 q g i k hq (hlg g z) hi (by rw [lnd g hgp]; exact hk) (by rw [rfd g hgp, he, hz])
        exact hqg (by rw [this]; exact z)
      by_cases hqp : q = p
      · subst hqp
        rw [lnp] at hi
        rw [rfp] at he
        exact (g2 d nog).1 ⟨i, hi, he⟩
      · have hi' := hi
        have he' := he
        rw [lnd q hqp] at hi'
        rw [rfd q hqp] at he'
        have hcq : c.1 q = true := by
          rw [lvd, if_neg (fun z => hqp z.1), if_neg hqg] at hq
          exact hq
        have n1 : ∀ k, k < lb → rb k ≠ d := fun k hk hz => by
          have hl : (und c (p, lb, rb, bo, sw)).1 p = true := rbl k hk
          exact hqp (hp2.2.2.2 q p i k hq hl hi (by rw [lnp]; exact hk) (by rw [rfp, he, hz]))
        have n2 : ∀ k, k < c.2.1 p → c.2.2 p k ≠ d := fun k hk hz => hqp (hp.2.2.2 q p i k hcq a3 hi' hk (by rw [he', hz]))
        rw [((g2 d nog).2 n1).2 n2]
        exact (ho d hd).1 q i hcq hi' he'
  · have nog : ∀ g k, sw = some g → k < c.2.1 g → c.2.2 g k ≠ d := fun g k z hk hz => by
      have hgp : g ≠ p := (a5 g z).2
      exact hno g k (hlg g z) (by rw [lnd g hgp]; exact hk) (by rw [rfd g hgp]; exact hz)
    have n1 : ∀ k, k < lb → rb k ≠ d := fun k hk hz => hno p k (rbl k hk) (by rw [lnp]; exact hk) (by rw [rfp]; exact hz)
    by_cases hold : ∃ k, k < c.2.1 p ∧ c.2.2 p k = d
    · exact ((g2 d nog).2 n1).1 hold
    · have n2 : ∀ k, k < c.2.1 p → c.2.2 p k ≠ d := fun k hk hz => hold ⟨k, hk, hz⟩
      rw [((g2 d nog).2 n1).2 n2]
      refine (ho d hd).2 (fun q i hcq hi hz => ?_)
      by_cases hqp : q = p
      · subst hqp
        exact n2 i hi hz
      · refine hno q i ?_ (by rw [lnd q hqp]; exact hi) (by rw [rfd q hqp]; exact hz)
        rw [lvd, if_neg (fun z => hqp z.1)]
        split
        · rfl
        · exact hcq
theorem unM_ap (M1 : g_M) {k E e n ac : Nat} {s1 : Nat → Nat} {r1 : Nat → Nat → Nat} {g1 : Nat → Bool} {a : Nat} (b : Nat) (h : a ≠ 154) : unM M1 k E e n ac s1 r1 g1 a b = if a = 156 ∧ b < e then (if b < E then nI (s1 b) else 0) else if a = 158 ∧ b < e then (if b < E then bI (g1 b) else 1) else if a = 157 ∧ b < 8 * e then g_st M1 149 26 (nI ac) 166 (96 * k + b) else g_st M1 149 26 (nI ac) a b := by
  unfold unM
  rw [oz_o _ _ _ _ h, ow1_o _ _ _ h]
  rfl
theorem pOK.up {c : pS} {n e E : Nat} (h : pOK c n E) (he : E ≤ e) : pOK c n e := ⟨fun p z => Nat.lt_of_lt_of_le (h.1 p z) he, h.2.1, fun p h1 h2 => h.2.2.1 p (by omega) h2, h.2.2.2⟩
/-- what undo takes of the class's half -/
theorem Iv.actU {M : g_M} {n e nx kp fa : Nat} {c : pS} {A : Nat → aR} {cs : Nat → pS} {Es : Nat → Nat} (h : Iv M n e nx kp fa c A cs Es) : 0 < kp → actU M ((nx + 29) % 30) (A 0).1 (A 0).2.1 (A 0).2.2.1 (A 0).2.2.2.2 := fun hk => by
  obtain ⟨⟨y1, y2, y3, y4⟩, ⟨z1, z2, z3, z4, z5⟩, -⟩ := h.2.2.2.2.2 0 hk
  rw [Nat.sub_zero] at y1 y2 y3 y4
  refine ⟨by omega, y1, z1, y3, ?_⟩
  rcases y4 with ⟨u1, u2⟩ | ⟨g, u1, u2⟩
  · exact Or.inl ⟨u1, u2⟩
  · exact Or.inr ⟨g, u1, u2, (z5 g u1).1, (z5 g u1).2⟩
theorem Iv.snP {M M1 : g_M} {n e nx kp fa : Nat} {c : pS} {A : Nat → aR} {cs : Nat → pS} {Es : Nat → Nat} (h : Iv M n e nx kp fa c A cs Es) (hh : hiE M M1) : 0 < kp → snP M1 ((fa + (kp - 1)) % 30) (Es 0) (szF (cs 1)) (cs 1).2.2 (fun p => !(cs 1).1 p) := fun hk => by
  obtain ⟨-, -, -, ⟨w1, w2, w3⟩, hp, -⟩ := h.2.2.2.2.2 0 hk
  rw [Nat.sub_zero] at w1 w3
  have h60 := h.1.n.2
  refine ⟨by omega, by rw [hh 164 (by decide)]; exact w1, w2, fun p hpE => ?_⟩
  obtain ⟨u1, u2, u3⟩ := w3 p hpE
  have hp : pOK (cs 1) n (Es 0) := hp
  obtain ⟨v1, v2⟩ := szF_le hp (p := p) (by omega)
  refine ⟨by rw [hh 165 (by decide)]; exact u1, v1, by rw [hh 167 (by decide)]; exact u2, fun i hi => ⟨by rw [hh 166 (by decide)]; exact u3 i hi, ?_⟩⟩
  have := v2 i hi
  show (cs 1).2.2 p i < 60
  omega
set_option maxHeartbeats 4000000 in
theorem tie_un {M M1 M2 : g_M} {n e nx kp fa : Nat} {c : pS} {A : Nat → aR} {cs : Nat → pS} {Es : Nat → Nat} (h : Iv M n e nx kp fa c A cs Es) (hk : 0 < kp) (hM1 : M1 = undM M ((nx + 29) % 30) kp (A 0).1 (A 0).2.1 (A 0).2.2.1 (A 0).2.2.2.2 c.2.1 c.2.2) (hM2 : M2 = unM M1 ((fa + (kp - 1)) % 30) (Es 0) e n (kp - 1) (szF (cs 1)) (cs 1).2.2 (fun p => !(cs 1).1 p)) : IvX M2 := by
  have h12 := h.e12
  have hU := h.actU hk
  obtain ⟨hact, haok, hcs, hsn, hpk1, hEe⟩ := h.2.2.2.2.2 0 hk
  have h0 := h.2.2.2.2.1
  rw [Nat.sub_zero] at hact hsn
  rw [h0] at hcs haok
  have hcs : cs 1 = und c (A 0) := hcs
  have hpk1 : pOK (cs 1) n (Es 0) := hpk1
  have hsn : snT M ((fa + (kp - 1)) % 30) (Es 0) (cs 1) := hsn
  have hpk1e := hpk1.up hEe
  have hpk := h.2.2.1
  have hok := h.2.2.2.1
  have hx := h.1.a.2.1
  have hk30 := h.1.a.2.2.2
  obtain ⟨hj30, -, hp12, hrb, -⟩ := hU
  obtain ⟨a1, a2, a3, a4, a5⟩ := id haok
  obtain ⟨d1, d2, d3, d4⟩ := id hact
  have hpe : (A 0).1 < e := hpk.1 _ a3
  have hsg : ∀ g, (A 0).2.2.2.2 = some g → g < 12 := fun g z => (a5 g z).1
  have hsp : (A 0).2.2.2.2 ≠ some (A 0).1 := fun z => (a5 _ z).2 rfl
  have u6 := undM_6 (M := M) (j := (nx + 29) % 30) (kp := kp) (p := (A 0).1) (lb := (A 0).2.1) (rb := (A 0).2.2.1) (sw := (A 0).2.2.2.2) (ln := c.2.1) (rf := c.2.2) hp12
  have uo : ∀ a, a ≠ 6 → a ≠ 9 → a ≠ 54 → a ≠ 19 + 3 * (A 0).1 → a ≠ 20 + 3 * (A 0).1 → (∀ q, q < 12 → a ≠ 18 + 3 * q) → M1 a = M a := fun a z1 z2 z3 z4 z5 z6 => by
    rw [hM1]; exact undM_o hp12 z1 z2 z3 z4 z5 z6 hsg
  have uw : ∀ q, q < 12 → M1 (18 + 3 * q) 1 = if (A 0).2.2.2.2 = some q then 0 else if q = (A 0).1 ∧ ¬ M (56 + 3 * ((nx + 29) % 30)) 1 = 0 then 1 else M (18 + 3 * q) 1 := fun q hq => by
    rw [hM1]; exact undM_w hp12 hsp hq
  have uap : ∀ a b, a ≠ 6 → ¬ (a = 9 ∧ b = 10) → (∀ q, q < 12 → ¬ (a = 18 + 3 * q ∧ b = 1)) → M1 a b = un2 M ((nx + 29) % 30) kp (A 0).1 (A 0).2.1 (A 0).2.2.1 c.2.1 c.2.2 a b := fun a b z1 z2 z3 => by
    rw [hM1]; exact undM_ap b hp12 hsg z1 z2 z3
  have u9 : M1 9 10 = 0 := by
    rw [hM1]
    unfold undM
    rw [g_st_ap, if_pos ⟨rfl, rfl⟩]
  rw [← hM1] at u6
  have hh : hiE M M1 := fun a ha => uo a (by omega) (by omega) (by omega) (by omega) (by omega) (fun q hq => by omega)
  -- the owners
  have hown : oOK (M1 6) (cs 1) n := by
    rw [hcs]
    exact und_own (F := M 6) (E := Es 0) hpk hok haok (by rw [← hcs]; exact hpk1) u6.1 u6.2
  have hoz := oz_ok (K := udM (g_st M1 149 26 (nI (kp - 1))) ((fa + (kp - 1)) % 30) (Es 0) (szF (cs 1)) (fun p => !(cs 1).1 p) e (8 * e)) (c := cs 1) (sz := fun p => if p < Es 0 then szF (cs 1) p else 0) (rr := (cs 1).2.2) hpk1e (fun q => by
    by_cases hq : q < Es 0
    · rw [if_pos hq]
    · rw [if_neg hq]
      unfold szF
      rw [if_neg (fun z => hq (hpk1.1 q z))]) (fun q i _ => rfl) h12
  have hM2' : M2 = oz (ow1 (udM (g_st M1 149 26 (nI (kp - 1))) ((fa + (kp - 1)) % 30) (Es 0) (szF (cs 1)) (fun p => !(cs 1).1 p) e (8 * e)) n) (fun p => if p < Es 0 then szF (cs 1) p else 0) (cs 1).2.2 e := hM2
  rw [← hM2'] at hoz
  have m2 : ∀ a b, a ≠ 154 → ¬ (156 ≤ a ∧ a ≤ 158) → ¬ (a = 149 ∧ b = 26) → M2 a b = M1 a b := fun a b z1 z2 z3 => by
    rw [hM2, unM_ap _ _ z1, if_neg (by omega), if_neg (by omega), if_neg (by omega), g_st_ap, if_neg z3]
  have lo : loE M1 M2 := fun a ha => by
    funext b
    exact m2 a b (by omega) (by omega) (by omega)
  have m2o : ∀ a, 149 < a → a ≠ 154 → ¬ (156 ≤ a ∧ a ≤ 158) → M2 a = M a := fun a z1 z2 z3 => by
    funext b
    rw [m2 a b z2 z3 (by omega), hh a (by omega)]
  obtain ⟨⟨b1, b2, b3, b4, b5⟩, ⟨f1, f2, f3⟩, ⟨c1, c2, c3, c4, c5⟩, t1, e1, g1⟩ := h.2.1
  have r149 : ∀ b, b ≠ 26 → M2 149 b = M 149 b := fun b z => by rw [m2 149 b (by decide) (by decide) (by omega), hh 149 (by decide)]
  have lnq : ∀ q, q ≠ (A 0).1 → (cs 1).2.1 q = c.2.1 q := fun q z => by rw [hcs]; exact if_neg z
  have rfq : ∀ q, q ≠ (A 0).1 → (cs 1).2.2 q = c.2.2 q := fun q z => by rw [hcs]; exact if_neg z
  have lnp : (cs 1).2.1 (A 0).1 = (A 0).2.1 := by rw [hcs]; exact if_pos rfl
  have rfp : (cs 1).2.2 (A 0).1 = (A 0).2.2.1 := by rw [hcs]; exact if_pos rfl
  have lvd : ∀ q, (cs 1).1 q = if q = (A 0).1 ∧ (A 0).2.2.2.1 = true then false else if (A 0).2.2.2.2 = some q then true else c.1 q := fun q => by rw [hcs]; rfl
  refine ⟨n, e, (nx + 29) % 30, kp - 1, fa, cs 1, fun i => A (i + 1), fun i => cs (i + 1), fun i => Es (i + 1), ⟨?_, h.1.n.2, ?_, h12, fun q hq => ?_, fun q q1 q2 => hpk1e.2.2.1 q q1 q2, ?_, ⟨?_, by omega, ?_, by omega⟩, Or.inl ?_⟩, ⟨⟨?_, ?_, ?_, ?_, b5⟩, ⟨?_, ?_, ?_⟩, ⟨?_, ?_, ?_, ?_, ?_⟩, ?_, fun q hq => ?_, fun q hq => ?_⟩, hpk1e, ?_, rfl, fun i hi => ?_⟩
  · rw [lo 1 (by decide), uo 1 (by omega) (by omega) (by omega) (by omega) (by omega) (fun q hq => by omega)]; exact h.1.n.1
  · rw [lo 16 (by decide), uo 16 (by omega) (by omega) (by omega) (by omega) (by omega) (fun q hq => by omega)]; exact h.1.e.1
  · by_cases hqp : q = (A 0).1
    · subst hqp
      rw [lnp, rfp]
      refine ⟨⟨rw_w hq, ?_, by omega, fun i hi => ⟨?_, (hrb.2.2.2 i hi).2⟩⟩, a2⟩
      · rw [lo _ (by omega), uap _ _ (by omega) (by omega) (fun q hq z => by omega), un2_ap _ (by omega), if_pos ⟨rfl, rfl⟩]
      · rw [lo _ (by omega), uap _ _ (by omega) (by omega) (fun q hq z => by omega), un2_ap _ (by omega), if_neg (by omega), if_pos ⟨rfl, hi⟩, show 58 + 3 * ((nx + 29) % 30) = 57 + 3 * ((nx + 29) % 30) + 1 by omega]
        exact (hrb.2.2.2 i hi).1
    · rw [lnq q hqp, rfq q hqp]
      refine ⟨(h.1.r hq).1.cg ?_ ?_, (h.1.r hq).2⟩
      · rw [lo _ (by omega)]; exact uo _ (by omega) (by omega) (by omega) (by omega) (by omega) (fun q hq => by omega)
      · rw [lo _ (by omega)]; exact uo _ (by omega) (by omega) (by omega) (by omega) (by omega) (fun q hq => by omega)
  · rw [lo 7 (by decide), uo 7 (by omega) (by omega) (by omega) (by omega) (by omega) (fun q hq => by omega)]; exact h.1.g
  · rw [lo 54 (by decide), uap _ _ (by omega) (by omega) (fun q hq z => by omega), un2_ap _ (by omega), if_neg (by omega), if_neg (by omega), if_neg (by omega), if_pos ⟨rfl, rfl⟩]
  · rw [lo 54 (by decide), uap _ _ (by omega) (by omega) (fun q hq z => by omega), un2_ap _ (by omega), if_neg (by omega), if_neg (by omega), if_pos ⟨rfl, rfl⟩]
  · rw [lo 9 (by decide)]; exact u9
  · rw [r149 0 (by decide)]; exact b1
  · rw [r149 1 (by decide)]; exact b2
  · rw [hM2, unM_ap _ _ (by decide), if_neg (by omega), if_neg (by omega), if_neg (by omega), g_st_ap, if_pos ⟨rfl, rfl⟩]
  · rw [r149 27 (by decide)]; exact b4
  · rw [r149 2 (by decide), lo 8 (by decide), uo 8 (by omega) (by omega) (by omega) (by omega) (by omega) (fun q hq => by omega)]; exact f1
  · rw [r149 3 (by decide), lo 7 (by decide), uo 7 (by omega) (by omega) (by omega) (by omega) (by omega) (fun q hq => by omega)]; exact f2
  · rw [r149 4 (by decide), lo 7 (by decide), uo 7 (by omega) (by omega) (by omega) (by omega) (by omega) (fun q hq => by omega)]; exact f3
  · rw [m2o 150 (by decide) (by decide) (by decide), lo 2 (by decide), uo 2 (by omega) (by omega) (by omega) (by omega) (by omega) (fun q hq => by omega)]; exact c1
  · rw [m2o 151 (by decide) (by decide) (by decide), lo 3 (by decide), uo 3 (by omega) (by omega) (by omega) (by omega) (by omega) (fun q hq => by omega)]; exact c2
  · rw [m2o 152 (by decide) (by decide) (by decide), lo 4 (by decide), uo 4 (by omega) (by omega) (by omega) (by omega) (by omega) (fun q hq => by omega)]; exact c3
  · rw [m2o 153 (by decide) (by decide) (by decide), lo 5 (by decide), uo 5 (by omega) (by omega) (by omega) (by omega) (by omega) (fun q hq => by omega)]; exact c4
  · rw [lo 6 (by decide)]
    refine oOK_eq hoz.1 hown (fun d hd => ?_)
    have n0 : ∀ g q, (A 0).2.2.2.2 = some g → q < c.2.1 g → c.2.2 g q ≠ d := fun g q z hq => by
      have := (hpk.2.1 g (hsg g z)).2 q hq
      omega
    have n1 : ∀ q, q < (A 0).2.1 → (A 0).2.2.1 q ≠ d := fun q hq => by
      have := (hpk1.2.1 (A 0).1 hp12).2 q (by rw [lnp]; exact hq)
      rw [rfp] at this
      omega
    have n2 : ∀ q, q < c.2.1 (A 0).1 → c.2.2 (A 0).1 q ≠ d := fun q hq => by
      have := (hpk.2.1 (A 0).1 hp12).2 q hq
      omega
    rw [hoz.2 d hd, ((u6.2 d n0).2 n1).2 n2]
    unfold udM
    rw [if_neg (by omega), if_neg (by omega), if_neg (by omega), g_st_ap, if_neg (by omega), hh 154 (by decide), c5]
  · rw [lo 2 (by decide), uo 2 (by omega) (by omega) (by omega) (by omega) (by omega) (fun q hq => by omega)]; exact t1
  · obtain ⟨w1, w2, w3⟩ := e1 q hq
    have eW : M1 (18 + 3 * q) 1 = bI (goF (cs 1) e q) := by
      rw [uw q hq]
      unfold goF
      rw [lvd q]
      by_cases hqg : (A 0).2.2.2.2 = some q
      · rw [if_pos hqg, if_neg (fun z => (a5 q hqg).2 z.1), if_pos hqg]
        simp
        rfl
      · rw [if_neg hqg, if_neg hqg]
        by_cases hqb : q = (A 0).1 ∧ (A 0).2.2.2.1 = true
        · have hne : ¬ M (56 + 3 * ((nx + 29) % 30)) 1 = 0 := by rw [d2, hqb.2]; decide
          rw [if_pos ⟨hqb.1, hne⟩, if_pos hqb, decide_eq_true (by rw [hqb.1]; exact hpe)]
          rfl
        · rw [if_neg hqb, if_neg, w2]
          · rfl
          · intro z
            apply hqb
            refine ⟨z.1, ?_⟩
            have := z.2
            rw [d2, bI_0] at this
            cases hb : (A 0).2.2.2.1
            · rw [hb] at this; exact absurd rfl this
            · rfl
    refine ⟨?_, by rw [lo _ (by omega)]; exact eW, ?_⟩
    · rw [m2o 155 (by decide) (by decide) (by decide), lo _ (by omega), uap _ _ (by omega) (by omega) (fun q hq z => by omega), un2_ap _ (by omega), if_neg (by omega), if_neg (by omega), if_neg (by omega), if_neg (by omega)]; exact w1
    · rw [hM2, unM_ap _ _ (by decide), if_neg (by omega)]
      unfold goF
      by_cases hqe : q < e
      · rw [if_pos ⟨rfl, hqe⟩, decide_eq_true hqe, Bool.true_and]
        by_cases hqE : q < Es 0
        · rw [if_pos hqE]
        · rw [if_neg hqE]
          have : (cs 1).1 q = false := Bool.eq_false_iff.mpr (fun z => hqE (hpk1.1 q z))
          rw [this]
          rfl
      · rw [if_neg (by omega), if_neg (by omega), g_st_ap, if_neg (by omega), hh 158 (by decide), w3, decide_eq_false hqe, Bool.false_and]
        unfold goF
        rw [decide_eq_false hqe, Bool.false_and]
  · obtain ⟨w1, w2⟩ := g1 q hq
    by_cases hqe : q < e
    · refine ⟨?_, fun i hi => ?_⟩
      · rw [hM2, unM_ap _ _ (by decide), if_pos ⟨rfl, hqe⟩]
        by_cases hqE : q < Es 0
        · rw [if_pos hqE]
        · rw [if_neg hqE]
          unfold szF
          rw [if_neg (fun z => hqE (hpk1.1 q z))]
          rfl
      · have h8 := (szF_le hpk1 hq).1
        have hqE : q < Es 0 := by
          refine hpk1.1 q ?_
          cases hl : (cs 1).1 q
          · unfold szF at hi
            rw [hl] at hi
            simp at hi
          · rfl
        rw [hM2, unM_ap _ _ (by decide), if_neg (by omega), if_neg (by omega), if_pos ⟨rfl, by omega⟩, g_st_ap, if_neg (by omega), hh 166 (by decide), show 96 * ((fa + (kp - 1)) % 30) + (8 * q + i) = (12 * ((fa + (kp - 1)) % 30) + q) * 8 + i by omega]
        exact (hsn.2.2 q hqE).2.2 i hi
    · have z0 : szF (cs 1) q = 0 := by
        unfold szF
        rw [if_neg (fun z => hqe (hpk1e.1 q z))]
      have z1 : szF c q = 0 := by
        unfold szF
        rw [if_neg (fun z => hqe (hpk.1 q z))]
      rw [z0]
      refine ⟨?_, fun i hi => by omega⟩
      rw [hM2, unM_ap _ _ (by decide), if_neg (by omega), if_neg (by omega), if_neg (by omega), g_st_ap, if_neg (by omega), hh 156 (by decide), w1, z1]
  · rw [lo 6 (by decide)]; exact hown
  · obtain ⟨y1, y2, y3, y4, y5, y6⟩ := h.2.2.2.2.2 (i + 1) (by omega)
    have e1 : ((nx + 29) % 30 + 29 - i) % 30 = (nx + 29 - (i + 1)) % 30 := by omega
    have e2 : (fa + (kp - 1 - 1 - i)) % 30 = (fa + (kp - 1 - (i + 1))) % 30 := by
      congr 1
      omega
    rw [e1, e2]
    refine ⟨y1.mv ?_ ?_ ?_, y2, y3, ?_, y5, y6⟩
    · rw [lo _ (by omega)]; exact uo _ (by omega) (by omega) (by omega) (by omega) (by omega) (fun q hq => by omega)
    · rw [lo _ (by omega)]; exact uo _ (by omega) (by omega) (by omega) (by omega) (by omega) (fun q hq => by omega)
    · rw [lo _ (by omega)]; exact uo _ (by omega) (by omega) (by omega) (by omega) (by omega) (fun q hq => by omega)
    · unfold snT
      rw [m2o 164 (by decide) (by decide) (by decide), m2o 165 (by decide) (by decide) (by decide), m2o 166 (by decide) (by decide) (by decide), m2o 167 (by decide) (by decide) (by decide)]
      exact y4
theorem h_undo {M M1 : g_M} {L L1 : g_L} {v1 : Int32} {n e nx kp fa : Nat} {c : pS} {A : Nat → aR} {cs : Nat → pS} {Es : Nat → Nat} (h : Iv M n e nx kp fa c A cs Es) (P1 : L = L1 ∧ ((kp = 0 ∧ v1 = -3 ∧ M = M1) ∨ (0 < kp ∧ v1 = nI (kp - 1) ∧ M1 = undM M ((nx + 29) % 30) kp (A 0).1 (A 0).2.1 (A 0).2.2.1 (A 0).2.2.2.2 c.2.1 c.2.2))) : hiE M M1 := by
  obtain ⟨-, ⟨-, -, rfl⟩ | ⟨hk, -, rfl⟩⟩ := P1
  · exact hiE.rf M
  · obtain ⟨-, -, hp12, -, hz⟩ := h.actU hk
    refine fun a ha => undM_o hp12 (by omega) (by omega) (by omega) (by omega) (by omega) (fun q hq => by omega) (fun g z => ?_)
    rcases hz with ⟨-, hz⟩ | ⟨g', hz, -, hg, -⟩
    · rw [hz] at z; cases z
    · rw [hz] at z; cases z; exact hg
theorem s_undo {M M1 : g_M} {L L1 : g_L} {v1 : Int32} {n e nx kp fa : Nat} {c : pS} {A : Nat → aR} {cs : Nat → pS} {Es : Nat → Nat} (h : Iv M n e nx kp fa c A cs Es) {M2 : g_M} {L2 : g_L} {v2 : Int32} (P1 : L = L1 ∧ ((kp = 0 ∧ v1 = -3 ∧ M = M1) ∨ (0 < kp ∧ v1 = nI (kp - 1) ∧ M1 = undM M ((nx + 29) % 30) kp (A 0).1 (A 0).2.1 (A 0).2.2.1 (A 0).2.2.2.2 c.2.1 c.2.2))) (P2 : L1 = L2 ∧ ((kp = 0 ∧ v2 = -3 ∧ M1 = M2) ∨ (0 < kp ∧ v2 = nI (kp - 1) ∧ M2 = unM M1 ((fa + (kp - 1)) % 30) (Es 0) e n (kp - 1) (szF (cs 1)) (cs 1).2.2 (fun p => !(cs 1).1 p)))) : v1 = v2 ∧ IvX M2 := by
  obtain ⟨-, P1⟩ := P1
  obtain ⟨-, P2⟩ := P2
  rcases P1 with ⟨h1, rfl, rfl⟩ | ⟨h1, rfl, hM1⟩
  · rcases P2 with ⟨-, rfl, rfl⟩ | ⟨h2, -⟩
    · exact ⟨rfl, h.x h.1.gC (frM.rf _)⟩
    · omega
  · rcases P2 with ⟨h2, -⟩ | ⟨-, rfl, hM2⟩
    · omega
    · exact ⟨rfl, tie_un h h1 hM1 hM2⟩
