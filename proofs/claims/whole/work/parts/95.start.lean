/-! ===== the law from its entry ===== -/
theorem wy_wx {X : g_X} {E : Nat → va_E} {ck co pc : Nat} {lv : List (Nat × Value)} {st : List Value} (e : ∀ j, j < 168 → E j = g_E X.1 M0 L0 j) (h1 : ck ≤ xk X) (h2 : co ≤ xo X) (kk : wx X M0 L0 pc lv st) : wy X 168 E ck co pc lv st := fun H locs ls hH hS hl => W.widen h1 h2 (kk H locs ls (hH.cg e).2 hS hl)
set_option maxHeartbeats 4000000 in
set_option maxRecDepth 100000 in
theorem law_start {X : g_X} {E : Nat → va_E} {b : Nat} (C : Cx X cL_law 4 RL (some .boolean) 8) (Y : Cy X) (hk : xk X = 600000) (ho : xo X = 7302249) (K : wx X M0 L0 18 [(0, .ref b), (1, .ref (X.1.1 + 0)), (2, .ref (X.1.1 + 149)), (3, .int (nI 0))] []) : wy X 0 E 0 0 0 [(0, .ref b)] [] := by
  refine wy_new C 10 (fs := [.null, .null, .null, .null, .null, .null, .null, .null]) tyX10 rfl inX10 tyX10_ok w1_15 w1_16 w1_1 (fun j hj => by rcases (show j = 0 ∨ j = 1 ∨ j = 2 ∨ j = 3 ∨ j = 4 ∨ j = 5 ∨ j = 6 ∨ j = 7 by omega) with rfl | rfl | rfl | rfl | rfl | rfl | rfl | rfl <;> rfl) _ (by rw [hk]; decide) (by rw [ho]; decide) dL_law_0 (fun _ _ => rfl) ?_
  refine wy_dup C dL_law_3 rfl ?_
  refine wy_init C Y (k := 0) (n := 0) (As := []) (rest := [.ref (X.1.1 + 0)]) (t_X10_init X.1 _ (va_up_self _ _ _)) w1_17 w1_18 w1_1 w1_19 (by decide +kernel) rfl (by decide) (by decide) rfl rfl (Nat.le_of_ble_eq_true rfl) (by rw [hk]; decide) (by rw [ho]; decide) dL_law_4 ?_
  refine wy_astore_n C [1, 0] [(0, .ref b), (1, .ref (X.1.1 + 0))] dL_law_7 rfl (by decide) rfl ?_
  refine wy_new C 11 (fs := [.int 0, .int 0, .int 0, .int 0, .int 0, .null, .null, .null, .null, .null, .null, .null, .null, .null, .null, .int 0, .int 0, .int 0, .long 0, .long 0, .null, .null, .int 0, .null, .null, .int 0, .int 0, .int 0, .null, .null, .null, .null, .long 0, .long 0, .long 0, .long 0]) tyX11 rfl inX11 tyX11_ok w3_191 w3_192 w1_12 (fun j hj => by rcases (show j = 0 ∨ j = 1 ∨ j = 2 ∨ j = 3 ∨ j = 4 ∨ j = 5 ∨ j = 6 ∨ j = 7 ∨ j = 8 ∨ j = 9 ∨ j = 10 ∨ j = 11 ∨ j = 12 ∨ j = 13 ∨ j = 14 ∨ j = 15 ∨ j = 16 ∨ j = 17 ∨ j = 18 ∨ j = 19 ∨ j = 20 ∨ j = 21 ∨ j = 22 ∨ j = 23 ∨ j = 24 ∨ j = 25 ∨ j = 26 ∨ j = 27 ∨ j = 28 ∨ j = 29 ∨ j = 30 ∨ j = 31 ∨ j = 32 ∨ j = 33 ∨ j = 34 ∨ j = 35 by omega) with rfl | rfl | rfl | rfl | rfl | rfl | rfl | rfl | rfl | rfl | rfl | rfl | rfl | rfl | rfl | rfl | rfl | rfl | rfl | rfl | rfl | rfl | rfl | rfl | rfl | rfl | rfl | rfl | rfl | rfl | rfl | rfl | rfl | rfl | rfl | rfl <;> rfl) _ (by rw [hk]; decide) (by rw [ho]; decide) dL_law_8 (fun _ _ => rfl) ?_
  refine wy_dup C dL_law_11 rfl ?_
  refine wy_init C Y (k := 149) (n := 0) (As := []) (rest := [.ref (X.1.1 + 149)]) (t_X11_init X.1 _ (va_up_self _ _ _)) w3_193 w3_194 w1_12 w3_195 (by decide +kernel) rfl (by decide) (by decide) rfl rfl (Nat.le_of_ble_eq_true rfl) (by rw [hk]; decide) (by rw [ho]; decide) dL_law_12 ?_
  refine wy_astore_n C [1, 2, 0] [(0, .ref b), (1, .ref (X.1.1 + 0)), (2, .ref (X.1.1 + 149))] dL_law_15 rfl (by decide) rfl ?_
  refine wy_iconst C 0 dL_law_16 (by decide) ?_
  refine wy_istore_n C [1, 2, 3, 0] [(0, .ref b), (1, .ref (X.1.1 + 0)), (2, .ref (X.1.1 + 149)), (3, .int 0)] dL_law_17 rfl (by decide) rfl ?_
  refine wy_wx (fun j hj => ?_) (by rw [hk]; decide) (by rw [ho]; decide) K
  unfold eE
  by_cases hj : j < 149
  · rw [if_pos hj, va_up_ne _ _ (by omega), if_neg (Nat.not_lt_zero j)]
  · rw [if_neg hj]
set_option maxHeartbeats 4000000 in
set_option maxRecDepth 100000 in
/-- from the entry, for every script of at most 2560 ints, the law comes to its end with true -/
theorem whole_start {p : Program} {e : Env} {s : State} {m : MethodId} {below : List Frame} {meth : Method} {c : Code} (l : Launch) {b L : Nat} {xs : Nat → Int32} (hL : L ≤ 2560) (C0 : lw_At p s m meth c b L xs) : W p l e room_1 s m #[Value.ref b] below meth c s.heap [] 0 0 (lw_Z below #[Value.ref b] s) (entryFrame m ([Value.ref b] : List Value).toArray 4) := by
  obtain ⟨hx, hb, hr, hml, hown, hts, hX, hbl, hlocks, hgv⟩ := id C0
  have htb : ∀ w ∈ g_tb, w.before #[Value.ref b] s = true := fun w hw => hts w (g_tb_good w hw).1
  obtain ⟨cc0, ci0, ck0⟩ := u_known (C := RX0) (T := TX0) (N := 4) (n := 4) htb inX0 (htb _ w1_220)
  obtain ⟨cc1, ci1, ck1⟩ := u_known (C := RX1) (T := TX1) (N := 3) (n := 3) htb inX1 (htb _ w1_213)
  obtain ⟨cc2, ci2, ck2⟩ := u_known (C := RX2) (T := TX2) (N := 4) (n := 4) htb inX2 (htb _ w1_87)
  obtain ⟨cc3, ci3, ck3⟩ := u_known (C := RX3) (T := TX3) (N := 5) (n := 5) htb inX3 (htb _ w2_17)
  obtain ⟨cc4, ci4, ck4⟩ := u_known (C := RX4) (T := TX4) (N := 5) (n := 5) htb inX4 (htb _ w1_63)
  obtain ⟨cc5, ci5, ck5⟩ := u_known (C := RX5) (T := TX5) (N := 11) (n := 11) htb inX5 (htb _ w1_109)
  obtain ⟨cc6, ci6, ck6⟩ := u_known (C := RX6) (T := TX6) (N := 2) (n := 2) htb inX6 (htb _ w1_115)
  obtain ⟨cc7, ci7, ck7⟩ := u_known (C := RX7) (T := TX7) (N := 6) (n := 6) htb inX7 (htb _ w1_24)
  obtain ⟨cc8, ci8, ck8⟩ := u_known (C := RX8) (T := TX8) (N := 3) (n := 3) htb inX8 (htb _ w1_179)
  obtain ⟨cc9, ci9, ck9⟩ := u_known (C := RX9) (T := TX9) (N := 3) (n := 3) htb inX9 (htb _ w1_172)
  obtain ⟨cc10, ci10, ck10⟩ := u_known (C := RX10) (T := TX10) (N := 8) (n := 8) htb inX10 (htb _ w1_16)
  obtain ⟨cc11, ci11, ck11⟩ := u_known (C := RX11) (T := TX11) (N := 36) (n := 36) htb inX11 (htb _ w3_192)
  obtain ⟨dC, dI, hKc⟩ : ∃ (dC : Nat → ClassId) (dI : Nat → Nat → Nat), ∀ (k : Nat) (q : vw_C), vwCl[k]? = some q → u_Kn s q.1 q.2.1 q.2.2 (dC k) (dI k) := by
    refine ⟨fun k => if k = 0 then cc0 else if k = 1 then cc1 else if k = 2 then cc2 else if k = 3 then cc3 else if k = 4 then cc4 else if k = 5 then cc5 else if k = 6 then cc6 else if k = 7 then cc7 else if k = 8 then cc8 else if k = 9 then cc9 else if k = 10 then cc10 else cc11, fun k => if k = 0 then ci0 else if k = 1 then ci1 else if k = 2 then ci2 else if k = 3 then ci3 else if k = 4 then ci4 else if k = 5 then ci5 else if k = 6 then ci6 else if k = 7 then ci7 else if k = 8 then ci8 else if k = 9 then ci9 else if k = 10 then ci10 else ci11, ?_⟩
    intro k q hq
    match k, hq with
    | 0, hq => cases hq; exact ck0
    | 1, hq => cases hq; exact ck1
    | 2, hq => cases hq; exact ck2
    | 3, hq => cases hq; exact ck3
    | 4, hq => cases hq; exact ck4
    | 5, hq => cases hq; exact ck5
    | 6, hq => cases hq; exact ck6
    | 7, hq => cases hq; exact ck7
    | 8, hq => cases hq; exact ck8
    | 9, hq => cases hq; exact ck9
    | 10, hq => cases hq; exact ck10
    | 11, hq => cases hq; exact ck11
    | k + 12, hq => simp [vwCl] at hq
  obtain ⟨aI, kI0, compI, fI1, fI2, fI3⟩ := Cond.arrayClass_spec (htb _ w1_61)
  obtain ⟨aZ, kZ0, compZ, fZ1, fZ2, fZ3⟩ := Cond.arrayClass_spec (htb _ w4_66)
  obtain ⟨compW, aW, kW0, fW1, fW2, fW3, fW4, fW5⟩ := Cond.arrayOver_spec (hts _ w1_178)
  obtain ⟨compA, aA, kA0, fA1, fA2, fA3, fA4, fA5⟩ := Cond.arrayOver_spec (hts _ w1_219)
  obtain ⟨G, hG1, hK⟩ : ∃ G : g_G, G.1 = s.heap.size ∧ va_K G.2.1 vwCl (g_tys G) s := by
    refine ⟨(s.heap.size, (dC, dI), fun t => if t = 0 then aI else if t = 1 then aZ else if t = 2 then aW else aA), rfl, hKc, ?_⟩
    intro k q hq
    match k, hq with
    | 0, hq =>
      cases hq
      exact ⟨fun n z => ⟨fun k h => (by cases h), kI0, fI2, compI, fI3⟩, fI1⟩
    | 1, hq =>
      cases hq
      exact ⟨fun n z => ⟨fun k h => (by cases h), kZ0, fZ2, compZ, fZ3⟩, fZ1⟩
    | 2, hq =>
      cases hq
      exact ⟨fun n z => ⟨fun k h => (by cases h), kW0, fW3, compW, fW4⟩, kW0, compW, fW3, fW4, fW1, fW5⟩
    | 3, hq =>
      cases hq
      exact ⟨fun n z => ⟨fun k h => (by cases h), kA0, fA3, compA, fA4⟩, kA0, compA, fA3, fA4, fA1, fA5⟩
    | k + 4, hq => simp [g_tys] at hq
  have hN : nst s := ⟨va_Nw.of rfl (hts _ w1_25), va_Nw.of rfl (hts _ w1_116), va_Nw.of rfl (hts _ w1_180), va_Nw.of rfl (hts _ w1_185), va_Nw.of rfl (hts _ w1_221), va_Nw.of rfl (hts _ w1_226), va_Nw.of rfl (hts _ w2_18), va_Nw.of rfl (hts _ w2_41), va_AO.of (hts _ w1_178), va_AO.of (hts _ w1_219)⟩
  obtain ⟨X, hXe⟩ : ∃ X : g_X, X = (G, p, l, e, room_1, s, m, #[Value.ref b], below, meth, c, 600000, 7302249, lw_Z below #[Value.ref b] s, 4) := ⟨_, rfl⟩
  have C : Cx X cL_law 4 RL (some .boolean) 8 := by
    rw [hXe]
    exact ⟨hx, hb, hml, rfl, hown, htb, hK, hr, hlocks, ⟨Nat.le_of_ble_eq_true rfl, Nat.le_of_ble_eq_true rfl⟩, Nat.le_refl _, Nat.le_refl _⟩
  have Y : Cy X := by
    rw [hXe]
    exact ⟨by show G.1 ≤ s.heap.size; omega, hN⟩
  have Z : lwZ X b L xs := by
    rw [hXe]
    exact ⟨hX, hbl, hG1, hL⟩
  have hE : ∀ (M : g_M) (Lg : g_L) (lv : List (Nat × Value)), wx X M Lg 906 lv [] := by
    rw [hXe]
    intro M Lg lv H locs ls hH hS h
    refine lv_iconst (v := 1) hx hb dL_law_906 (by decide) ?_
    refine va_forget (fun q hq => ?_) ?_
    · have hz : G.1 ≤ q.base := hS.2.2 q hq
      show s.heap.size ≤ q.base
      omega
    · exact lw_ret hx hb hr hlocks dL_law_907
  have main : wy X 0 (fun _ => .inr (0, [])) 0 0 0 [(0, .ref b)] [] := law_start C Y (by rw [hXe]) (by rw [hXe]) (law_loop C Z hE (L + 1) 0 (Nat.zero_le L) (by omega) M0 L0 IvX_0)
  have hl := lv_entry ([.ref b]) (n := 4) (Nat.le_of_ble_eq_true rfl)
  rw [lg_entry_eq]
  rw [hXe] at main
  exact main s.heap [] _ ⟨by show s.heap.size = G.1 + 0; omega, fun k q h => by simp [g_ws] at h⟩ va_S.rf hl
