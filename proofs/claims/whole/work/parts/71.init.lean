/-! ===== the constructors ===== -/
def M0 : g_M := fun a => if a = 7 then (fun b => if b = 1 then 10 else if b = 2 then 10 else 0) else if a = 8 then (fun b => if b = 1 then 10 else 0) else if a = 149 then (fun b => if b = 2 then 10 else if b = 3 then 10 else if b = 4 then 10 else 0) else fun _ => 0
def L0 : g_L := fun _ _ => 0
theorem M0_z {a : Nat} (h1 : a ≠ 7) (h2 : a ≠ 8) (h3 : a ≠ 149) : M0 a = fun _ => 0 := by
  unfold M0
  rw [if_neg h1, if_neg h2, if_neg h3]
def cE (G : g_G) (E : Nat → va_E) (k : Nat) (e : va_E) : Nat → va_E := fun j => if j < k then E j else if j = k then e else g_E G M0 L0 j
def eE (G : g_G) (E : Nat → va_E) (k : Nat) : Nat → va_E := fun j => if j < k then E j else g_E G M0 L0 j
section CE
variable {G : g_G} {E : Nat → va_E} {k N q : Nat} {e x a : va_E}
theorem cE_in (h : E k = e) : ∀ j, j < k + 1 → E j = cE G E k e j := fun j hj => by
  unfold cE
  by_cases h1 : j < k
  · rw [if_pos h1]
  · have : j = k := by omega
    subst this
    rw [if_neg h1, if_pos rfl, h]
theorem cE_at : cE G E k e k = e := by
  unfold cE
  rw [if_neg (Nat.lt_irrefl k), if_pos rfl]
theorem cE_lt {j : Nat} (h : j < k) : cE G E k e j = E j := by
  unfold cE
  rw [if_pos h]
theorem cE_push (hN : k < N) (he : x = g_E G M0 L0 N) : ∀ j, j < N + 1 → va_up (cE G E k e) N x j = cE G E k e j := fun j _ => by
  by_cases h : j = N
  · subst h
    rw [va_up_self, he]
    unfold cE
    rw [if_neg (by omega), if_neg (by omega)]
  · rw [va_up_ne _ _ h]
theorem cE_set : ∀ j, j < N → va_up (cE G E k e) k x j = cE G E k x j := fun j _ => by
  by_cases h : j = k
  · subst h
    rw [va_up_self, cE_at]
  · rw [va_up_ne _ _ h]
    unfold cE
    rw [if_neg h, if_neg h]
theorem eE_push (hN : k < N) : ∀ j, eE G (va_up (cE G E k e) N x) N j = cE G E k e j := fun j => by
  unfold eE
  by_cases h : j < N
  · rw [if_pos h, va_up_ne _ _ (by omega)]
  · rw [if_neg h]
    unfold cE
    rw [if_neg (by omega), if_neg (by omega)]
theorem cE_out (h : e = g_E G M0 L0 k) : ∀ j, cE G E k e j = eE G E k j := fun j => by
  unfold cE eE
  by_cases h1 : j < k
  · rw [if_pos h1, if_pos h1]
  · rw [if_neg h1, if_neg h1]
    by_cases h2 : j = k
    · rw [if_pos h2, h2, h]
    · rw [if_neg h2]
theorem cE_nest : ∀ j, j < k + 1 + 1 → va_up (cE G E k e) (k + 1) x j = cE G (cE G E k e) (k + 1) x j := fun j hj => by
  by_cases h : j = k + 1
  · subst h
    rw [va_up_self, cE_at]
  · rw [va_up_ne _ _ h, cE_lt (show j < k + 1 by omega)]
theorem cE_set2 (hk : k < q) : ∀ j, j < N → va_up (cE G (cE G E k e) q a) k x j = cE G (cE G E k x) q a j := fun j _ => by
  by_cases h : j = k
  · subst h
    rw [va_up_self, cE_lt hk, cE_at]
  · rw [va_up_ne _ _ h]
    unfold cE
    rw [if_neg h, if_neg h]
theorem cE_out2 (h : e = g_E G M0 L0 k) (h2 : a = g_E G M0 L0 q) (hk : k < q) : ∀ j, cE G (cE G E k e) q a j = eE G E k j := fun j => by
  by_cases hj : j < q
  · rw [cE_lt hj, cE_out h]
  · rw [cE_out h2]
    unfold eE
    rw [if_neg hj, if_neg (by omega)]
end CE
theorem wy_wd {X : g_X} {N ck co ck2 co2 pc : Nat} {E : Nat → va_E} {lv : List (Nat × Value)} {st : List Value} (h1 : ck ≤ ck2) (h2 : co ≤ co2) (kk : wy X N E ck2 co2 pc lv st) : wy X N E ck co pc lv st := fun H locs ls hH hS hl => W.widen h1 h2 (kk H locs ls hH hS hl)
theorem g_row_b {k : Nat} (h : g_row k) : k ≠ 7 ∧ k ≠ 8 ∧ k < 148 ∧ k + 1 ≠ 7 ∧ k + 1 ≠ 8 := by
  rcases h with rfl | rfl | ⟨p, hp, rfl⟩ | ⟨i, hi, rfl⟩ <;> omega
set_option maxHeartbeats 4000000 in
set_option maxRecDepth 100000 in
theorem t_X6_init (G : g_G) (E : Nat → va_E) {k : Nat} (hk : g_row k) (hE : E k = .inr (6, [.null, .int 0])) : mk G yX6_init (Cond.code yX6_init cX6_init 1 none) 1 1 16 [.ref (G.1 + k)] (k + 1) E (k + 1 + 1) (eE G E k) := by
  refine mk_of (by decide) rfl rfl (Nat.le_of_ble_eq_true rfl) [(0, .ref (G.1 + k))] rfl (fun X hG hxk hxo C Y hi hQ => ?_)
  subst hG
  refine wy_cg (cE_in (G := X.1) hE) ?_
  refine wy_aload_n C 0 dX6_init_0 rfl rfl ?_
  refine wy_obj C w1_119 (by decide) (Nat.le_of_ble_eq_true rfl) dX6_init_1 ?_
  refine wy_aload_n C 0 dX6_init_4 rfl rfl ?_
  refine wy_bipush C 16 dX6_init_5 (by decide) ?_
  refine wy_newI C 16 _ (by decide) (by decide) (by decide) (by rw [hxk]; decide) (by rw [hxo]; decide) dX6_init_7 (cE_push (by omega) (by have h7 := g_row_7 hk; have hb := g_row_b hk; show _ = g_sh _ _ _ _; rw [sh_rowD hk, M0_z (by omega) (by omega) (by omega)])) ?_
  refine wy_putF C hi k 0 (fs := [.null, .int 0]) (ty := (.array .int)) tyX6 (cE X.1 E k (.inr (6, [.ref (X.1.1 + (k + 1)), .int 0]))) (by omega) cE_at rfl inX6 tyX6_ok nmX6 (by decide) w1_120 rfl rfl rfl (by decide +kernel) rfl rfl (Nat.le_of_ble_eq_true rfl) dX6_init_9 cE_set ?_
  exact wy_ret C hQ dX6_init_12 (by rw [hxk]; decide) (by rw [hxo]; decide) (fun j _ => cE_out (by have h7 := g_row_7 hk; have hb := g_row_b hk; show _ = g_sh _ _ _ _; rw [sh_row hk, M0_z (by omega) (by omega) (by omega)]) j)
set_option maxHeartbeats 4000000 in
set_option maxRecDepth 100000 in
theorem t_X0_init (G : g_G) (E : Nat → va_E) {k i : Nat} (hi3 : i < 30) (hk : k = 56 + 3 * i) (hE : E k = .inr (0, [.int 0, .int 0, .int 0, .null])) : mk G yX0_init (Cond.code yX0_init cX0_init 1 none) 2 2 18 [.ref (G.1 + k)] (k + 1) E (k + 1 + 1 + 1) (eE G E k) := by
  refine mk_of (by decide) rfl rfl (Nat.le_of_ble_eq_true rfl) [(0, .ref (G.1 + k))] rfl (fun X hG hxk hxo C Y hi hQ => ?_)
  subst hG
  refine wy_cg (cE_in (G := X.1) hE) ?_
  refine wy_aload_n C 0 dX0_init_0 rfl rfl ?_
  refine wy_obj C w1_224 (by decide) (Nat.le_of_ble_eq_true rfl) dX0_init_1 ?_
  refine wy_aload_n C 0 dX0_init_4 rfl rfl ?_
  refine wy_new C 6 (fs := [.null, .int 0]) tyX6 rfl inX6 tyX6_ok w1_225 w1_115 w1_6 (fun j hj => by rcases (show j = 0 ∨ j = 1 by omega) with rfl | rfl <;> rfl) _ (by rw [hxk]; decide) (by rw [hxo]; decide) dX0_init_5 (fun _ _ => rfl) ?_
  refine wy_dup C dX0_init_8 rfl ?_
  refine wy_initN C Y (k := (k + 1)) (n := 0) (As := []) (rest := [.ref (X.1.1 + (k + 1)), .ref (X.1.1 + k)]) (t_X6_init X.1 _ (by rw [hk, show 56 + 3 * i + 1 = 57 + 3 * i by omega]; exact rw_a hi3) (va_up_self _ _ _)) Y.2.2.2.2.2.2.1 w1_117 w1_6 w1_118 (by decide +kernel) rfl (by decide) (by decide) rfl rfl (Nat.le_of_ble_eq_true rfl) (by rw [hxk]; decide) (by rw [hxo]; decide) dX0_init_9 ?_
  refine wy_cg (F := cE X.1 E k (.inr (0, [.int 0, .int 0, .int 0, .null]))) (fun j _ => eE_push (by omega) j) ?_
  refine wy_putF C hi k 3 (fs := [.int 0, .int 0, .int 0, .null]) (ty := (.object "NightDots$Row")) tyX0 (cE X.1 E k (.inr (0, [.int 0, .int 0, .int 0, .ref (X.1.1 + (k + 1))]))) (by omega) cE_at rfl inX0 tyX0_ok nmX0 (by decide) w1_233 rfl rfl rfl (by decide +kernel) rfl rfl (Nat.le_of_ble_eq_true rfl) dX0_init_12 cE_set ?_
  exact wy_ret C hQ dX0_init_15 (by rw [hxk]; decide) (by rw [hxo]; decide) (fun j _ => cE_out (by rw [hk]; show _ = g_sh _ _ _ _; rw [sh_act hi3, M0_z (by omega) (by omega) (by omega), show 57 + 3 * i = 56 + 3 * i + 1 by omega]) j)
set_option maxHeartbeats 4000000 in
set_option maxRecDepth 100000 in
theorem t_X8_init (G : g_G) (E : Nat → va_E) {k i : Nat} (hi3 : i < 12) (hk : k = 18 + 3 * i) (hE : E k = .inr (8, [.int 0, .int 0, .null])) : mk G yX8_init (Cond.code yX8_init cX8_init 1 none) 2 2 18 [.ref (G.1 + k)] (k + 1) E (k + 1 + 1 + 1) (eE G E k) := by
  refine mk_of (by decide) rfl rfl (Nat.le_of_ble_eq_true rfl) [(0, .ref (G.1 + k))] rfl (fun X hG hxk hxo C Y hi hQ => ?_)
  subst hG
  refine wy_cg (cE_in (G := X.1) hE) ?_
  refine wy_aload_n C 0 dX8_init_0 rfl rfl ?_
  refine wy_obj C w1_183 (by decide) (Nat.le_of_ble_eq_true rfl) dX8_init_1 ?_
  refine wy_aload_n C 0 dX8_init_4 rfl rfl ?_
  refine wy_new C 6 (fs := [.null, .int 0]) tyX6 rfl inX6 tyX6_ok w1_184 w1_115 w1_6 (fun j hj => by rcases (show j = 0 ∨ j = 1 by omega) with rfl | rfl <;> rfl) _ (by rw [hxk]; decide) (by rw [hxo]; decide) dX8_init_5 (fun _ _ => rfl) ?_
  refine wy_dup C dX8_init_8 rfl ?_
  refine wy_initN C Y (k := (k + 1)) (n := 0) (As := []) (rest := [.ref (X.1.1 + (k + 1)), .ref (X.1.1 + k)]) (t_X6_init X.1 _ (by rw [hk, show 18 + 3 * i + 1 = 19 + 3 * i by omega]; exact rw_w hi3) (va_up_self _ _ _)) Y.2.2.2.2.1 w1_117 w1_6 w1_118 (by decide +kernel) rfl (by decide) (by decide) rfl rfl (Nat.le_of_ble_eq_true rfl) (by rw [hxk]; decide) (by rw [hxo]; decide) dX8_init_9 ?_
  refine wy_cg (F := cE X.1 E k (.inr (8, [.int 0, .int 0, .null]))) (fun j _ => eE_push (by omega) j) ?_
  refine wy_putF C hi k 2 (fs := [.int 0, .int 0, .null]) (ty := (.object "NightDots$Row")) tyX8 (cE X.1 E k (.inr (8, [.int 0, .int 0, .ref (X.1.1 + (k + 1))]))) (by omega) cE_at rfl inX8 tyX8_ok nmX8 (by decide) w1_190 rfl rfl rfl (by decide +kernel) rfl rfl (Nat.le_of_ble_eq_true rfl) dX8_init_12 cE_set ?_
  exact wy_ret C hQ dX8_init_15 (by rw [hxk]; decide) (by rw [hxo]; decide) (fun j _ => cE_out (by rw [hk]; show _ = g_sh _ _ _ _; rw [sh_wan hi3, M0_z (by omega) (by omega) (by omega), show 19 + 3 * i = 18 + 3 * i + 1 by omega]) j)
set_option maxHeartbeats 4000000 in
set_option maxRecDepth 100000 in
theorem t_X7_init (G : g_G) (E : Nat → va_E) (hE : E 1 = .inr (7, [.null, .null, .null, .null, .null, .int 0])) : mk G yX7_init (Cond.code yX7_init cX7_init 1 none) 1 5 300 [.ref (G.1 + 1)] 2 E 7 (eE G E 1) := by
  refine mk_of (by decide) rfl rfl (Nat.le_of_ble_eq_true rfl) [(0, .ref (G.1 + 1))] rfl (fun X hG hxk hxo C Y hi hQ => ?_)
  subst hG
  refine wy_cg (cE_in (G := X.1) hE) ?_
  refine wy_aload_n C 0 dX7_init_0 rfl rfl ?_
  refine wy_obj C w1_28 (by decide) (Nat.le_of_ble_eq_true rfl) dX7_init_1 ?_
  refine wy_aload_n C 0 dX7_init_4 rfl rfl ?_
  refine wy_bipush C 60 dX7_init_5 (by decide) ?_
  refine wy_newI C 60 _ (by decide) (by decide) (by decide) (by rw [hxk]; decide) (by rw [hxo]; decide) dX7_init_7 (cE_push (by decide) rfl) ?_
  refine wy_putF C hi 1 0 (fs := [.null, .null, .null, .null, .null, .int 0]) (ty := (.array .int)) tyX7 (cE X.1 E 1 (.inr (7, [.ref (X.1.1 + 2), .null, .null, .null, .null, .int 0]))) (by decide) cE_at rfl inX7 tyX7_ok nmX7 (by decide) w1_29 rfl rfl rfl (by decide +kernel) rfl rfl (Nat.le_of_ble_eq_true rfl) dX7_init_9 cE_set ?_
  refine wy_aload_n C 0 dX7_init_12 rfl rfl ?_
  refine wy_bipush C 60 dX7_init_13 (by decide) ?_
  refine wy_newI C 60 _ (by decide) (by decide) (by decide) (by rw [hxk]; decide) (by rw [hxo]; decide) dX7_init_15 (cE_push (by decide) rfl) ?_
  refine wy_putF C hi 1 1 (fs := [.ref (X.1.1 + 2), .null, .null, .null, .null, .int 0]) (ty := (.array .int)) tyX7 (cE X.1 E 1 (.inr (7, [.ref (X.1.1 + 2), .ref (X.1.1 + 3), .null, .null, .null, .int 0]))) (by decide) cE_at rfl inX7 tyX7_ok nmX7 (by decide) w1_34 rfl rfl rfl (by decide +kernel) rfl rfl (Nat.le_of_ble_eq_true rfl) dX7_init_17 cE_set ?_
  refine wy_aload_n C 0 dX7_init_20 rfl rfl ?_
  refine wy_bipush C 60 dX7_init_21 (by decide) ?_
  refine wy_newI C 60 _ (by decide) (by decide) (by decide) (by rw [hxk]; decide) (by rw [hxo]; decide) dX7_init_23 (cE_push (by decide) rfl) ?_
  refine wy_putF C hi 1 2 (fs := [.ref (X.1.1 + 2), .ref (X.1.1 + 3), .null, .null, .null, .int 0]) (ty := (.array .int)) tyX7 (cE X.1 E 1 (.inr (7, [.ref (X.1.1 + 2), .ref (X.1.1 + 3), .ref (X.1.1 + 4), .null, .null, .int 0]))) (by decide) cE_at rfl inX7 tyX7_ok nmX7 (by decide) w1_37 rfl rfl rfl (by decide +kernel) rfl rfl (Nat.le_of_ble_eq_true rfl) dX7_init_25 cE_set ?_
  refine wy_aload_n C 0 dX7_init_28 rfl rfl ?_
  refine wy_bipush C 60 dX7_init_29 (by decide) ?_
  refine wy_newI C 60 _ (by decide) (by decide) (by decide) (by rw [hxk]; decide) (by rw [hxo]; decide) dX7_init_31 (cE_push (by decide) rfl) ?_
  refine wy_putF C hi 1 3 (fs := [.ref (X.1.1 + 2), .ref (X.1.1 + 3), .ref (X.1.1 + 4), .null, .null, .int 0]) (ty := (.array .int)) tyX7 (cE X.1 E 1 (.inr (7, [.ref (X.1.1 + 2), .ref (X.1.1 + 3), .ref (X.1.1 + 4), .ref (X.1.1 + 5), .null, .int 0]))) (by decide) cE_at rfl inX7 tyX7_ok nmX7 (by decide) w1_40 rfl rfl rfl (by decide +kernel) rfl rfl (Nat.le_of_ble_eq_true rfl) dX7_init_33 cE_set ?_
  refine wy_aload_n C 0 dX7_init_36 rfl rfl ?_
  refine wy_bipush C 60 dX7_init_37 (by decide) ?_
  refine wy_newI C 60 _ (by decide) (by decide) (by decide) (by rw [hxk]; decide) (by rw [hxo]; decide) dX7_init_39 (cE_push (by decide) rfl) ?_
  refine wy_putF C hi 1 4 (fs := [.ref (X.1.1 + 2), .ref (X.1.1 + 3), .ref (X.1.1 + 4), .ref (X.1.1 + 5), .null, .int 0]) (ty := (.array .int)) tyX7 (cE X.1 E 1 (.inr (7, [.ref (X.1.1 + 2), .ref (X.1.1 + 3), .ref (X.1.1 + 4), .ref (X.1.1 + 5), .ref (X.1.1 + 6), .int 0]))) (by decide) cE_at rfl inX7 tyX7_ok nmX7 (by decide) w1_42 rfl rfl rfl (by decide +kernel) rfl rfl (Nat.le_of_ble_eq_true rfl) dX7_init_41 cE_set ?_
  exact wy_ret C hQ dX7_init_44 (by rw [hxk]; decide) (by rw [hxo]; decide) (fun j _ => cE_out rfl j)
set_option maxHeartbeats 4000000 in
set_option maxRecDepth 100000 in
theorem t_X4_init (G : g_G) (E : Nat → va_E) (hE : E 7 = .inr (4, [.null, .int 0, .int 0, .int 0, .int 0])) : mk G yX4_init (Cond.code yX4_init cX4_init 2 none) 1 0 0 [.ref (G.1 + 7), .ref (G.1 + 1)] 8 E 8 (eE G E 7) := by
  refine mk_of (by decide) rfl rfl (Nat.le_of_ble_eq_true rfl) [(0, .ref (G.1 + 7)), (1, .ref (G.1 + 1))] rfl (fun X hG hxk hxo C Y hi hQ => ?_)
  subst hG
  refine wy_cg (cE_in (G := X.1) hE) ?_
  refine wy_aload_n C 0 dX4_init_0 rfl rfl ?_
  refine wy_obj C w1_67 (by decide) (Nat.le_of_ble_eq_true rfl) dX4_init_1 ?_
  refine wy_aload_n C 0 dX4_init_4 rfl rfl ?_
  refine wy_bipush C 10 dX4_init_5 (by decide) ?_
  refine wy_put C 7 1 (fs := [.null, .int 0, .int 0, .int 0, .int 0]) (ty := .int) tyX4 (cE X.1 E 7 (.inr (4, [.null, .int 10, .int 0, .int 0, .int 0]))) (by decide) cE_at rfl inX4 tyX4_ok nmX4 (by decide) w1_69 rfl rfl (by decide +kernel) rfl rfl (Nat.le_of_ble_eq_true rfl) dX4_init_7 cE_set ?_
  refine wy_aload_n C 0 dX4_init_10 rfl rfl ?_
  refine wy_bipush C 10 dX4_init_11 (by decide) ?_
  refine wy_put C 7 2 (fs := [.null, .int 10, .int 0, .int 0, .int 0]) (ty := .int) tyX4 (cE X.1 E 7 (.inr (4, [.null, .int 10, .int 10, .int 0, .int 0]))) (by decide) cE_at rfl inX4 tyX4_ok nmX4 (by decide) w1_71 rfl rfl (by decide +kernel) rfl rfl (Nat.le_of_ble_eq_true rfl) dX4_init_13 cE_set ?_
  refine wy_aload_n C 0 dX4_init_16 rfl rfl ?_
  refine wy_aload_n C 1 dX4_init_17 rfl rfl ?_
  refine wy_putF C hi 7 0 (fs := [.null, .int 10, .int 10, .int 0, .int 0]) (ty := (.object "NightDots$Sky")) tyX4 (cE X.1 E 7 (.inr (4, [.ref (X.1.1 + 1), .int 10, .int 10, .int 0, .int 0]))) (by decide) cE_at rfl inX4 tyX4_ok nmX4 (by decide) w1_68 rfl rfl rfl (by decide +kernel) rfl rfl (Nat.le_of_ble_eq_true rfl) dX4_init_18 cE_set ?_
  exact wy_ret C hQ dX4_init_21 (by rw [hxk]; decide) (by rw [hxo]; decide) (fun j _ => cE_out rfl j)
set_option maxHeartbeats 4000000 in
set_option maxRecDepth 100000 in
theorem t_X2_init (G : g_G) (E : Nat → va_E) (hE : E 8 = .inr (2, [.null, .int 0, .int 0, .int 0])) : mk G yX2_init (Cond.code yX2_init cX2_init 2 none) 1 0 0 [.ref (G.1 + 8), .ref (G.1 + 1)] 9 E 9 (eE G E 8) := by
  refine mk_of (by decide) rfl rfl (Nat.le_of_ble_eq_true rfl) [(0, .ref (G.1 + 8)), (1, .ref (G.1 + 1))] rfl (fun X hG hxk hxo C Y hi hQ => ?_)
  subst hG
  refine wy_cg (cE_in (G := X.1) hE) ?_
  refine wy_aload_n C 0 dX2_init_0 rfl rfl ?_
  refine wy_obj C w1_91 (by decide) (Nat.le_of_ble_eq_true rfl) dX2_init_1 ?_
  refine wy_aload_n C 0 dX2_init_4 rfl rfl ?_
  refine wy_bipush C 10 dX2_init_5 (by decide) ?_
  refine wy_put C 8 1 (fs := [.null, .int 0, .int 0, .int 0]) (ty := .int) tyX2 (cE X.1 E 8 (.inr (2, [.null, .int 10, .int 0, .int 0]))) (by decide) cE_at rfl inX2 tyX2_ok nmX2 (by decide) w1_93 rfl rfl (by decide +kernel) rfl rfl (Nat.le_of_ble_eq_true rfl) dX2_init_7 cE_set ?_
  refine wy_aload_n C 0 dX2_init_10 rfl rfl ?_
  refine wy_aload_n C 1 dX2_init_11 rfl rfl ?_
  refine wy_putF C hi 8 0 (fs := [.null, .int 10, .int 0, .int 0]) (ty := (.object "NightDots$Sky")) tyX2 (cE X.1 E 8 (.inr (2, [.ref (X.1.1 + 1), .int 10, .int 0, .int 0]))) (by decide) cE_at rfl inX2 tyX2_ok nmX2 (by decide) w1_92 rfl rfl rfl (by decide +kernel) rfl rfl (Nat.le_of_ble_eq_true rfl) dX2_init_12 cE_set ?_
  exact wy_ret C hQ dX2_init_15 (by rw [hxk]; decide) (by rw [hxo]; decide) (fun j _ => cE_out rfl j)
set_option maxHeartbeats 4000000 in
set_option maxRecDepth 100000 in
theorem t_X3_init (G : g_G) (E : Nat → va_E) (hE : E 146 = .inr (3, [.long 0, .long 0, .long 0, .long 0, .long 0])) : mk G yX3_init (Cond.code yX3_init cX3_init 1 none) 1 0 0 [.ref (G.1 + 146)] 147 E 147 (eE G E 146) := by
  refine mk_of (by decide) rfl rfl (Nat.le_of_ble_eq_true rfl) [(0, .ref (G.1 + 146))] rfl (fun X hG hxk hxo C Y hi hQ => ?_)
  subst hG
  refine wy_cg (cE_in (G := X.1) hE) ?_
  refine wy_aload_n C 0 dX3_init_0 rfl rfl ?_
  refine wy_obj C w2_21 (by decide) (Nat.le_of_ble_eq_true rfl) dX3_init_1 ?_
  exact wy_ret C hQ dX3_init_4 (by rw [hxk]; decide) (by rw [hxo]; decide) (fun j _ => cE_out rfl j)
set_option maxHeartbeats 4000000 in
set_option maxRecDepth 100000 in
theorem t_X5_init (G : g_G) (E : Nat → va_E) (hE : E 9 = .inr (5, [.null, .null, .null, .null, .null, .null, .null, .null, .int 0, .int 0, .int 0])) : mk G yX5_init (Cond.code yX5_init cX5_init 4 none) 2 6 1658 [.ref (G.1 + 9), .ref (G.1 + 1), .ref (G.1 + 7), .ref (G.1 + 8)] 10 E 16 (eE G E 9) := by
  refine mk_of (by decide) rfl rfl (Nat.le_of_ble_eq_true rfl) [(0, .ref (G.1 + 9)), (1, .ref (G.1 + 1)), (2, .ref (G.1 + 7)), (3, .ref (G.1 + 8))] rfl (fun X hG hxk hxo C Y hi hQ => ?_)
  subst hG
  refine wy_cg (cE_in (G := X.1) hE) ?_
  refine wy_aload_n C 0 dX5_init_0 rfl rfl ?_
  refine wy_obj C w1_113 (by decide) (Nat.le_of_ble_eq_true rfl) dX5_init_1 ?_
  refine wy_aload_n C 0 dX5_init_4 rfl rfl ?_
  refine wy_sipush C 780 dX5_init_5 (by decide) ?_
  refine wy_newI C 780 _ (by decide) (by decide) (by decide) (by rw [hxk]; decide) (by rw [hxo]; decide) dX5_init_8 (cE_push (by decide) rfl) ?_
  refine wy_putF C hi 9 3 (fs := [.null, .null, .null, .null, .null, .null, .null, .null, .int 0, .int 0, .int 0]) (ty := (.array .int)) tyX5 (cE X.1 E 9 (.inr (5, [.null, .null, .null, .ref (X.1.1 + 10), .null, .null, .null, .null, .int 0, .int 0, .int 0]))) (by decide) cE_at rfl inX5 tyX5_ok nmX5 (by decide) w1_138 rfl rfl rfl (by decide +kernel) rfl rfl (Nat.le_of_ble_eq_true rfl) dX5_init_10 cE_set ?_
  refine wy_aload_n C 0 dX5_init_13 rfl rfl ?_
  refine wy_sipush C 780 dX5_init_14 (by decide) ?_
  refine wy_newI C 780 _ (by decide) (by decide) (by decide) (by rw [hxk]; decide) (by rw [hxo]; decide) dX5_init_17 (cE_push (by decide) rfl) ?_
  refine wy_putF C hi 9 4 (fs := [.null, .null, .null, .ref (X.1.1 + 10), .null, .null, .null, .null, .int 0, .int 0, .int 0]) (ty := (.array .int)) tyX5 (cE X.1 E 9 (.inr (5, [.null, .null, .null, .ref (X.1.1 + 10), .ref (X.1.1 + 11), .null, .null, .null, .int 0, .int 0, .int 0]))) (by decide) cE_at rfl inX5 tyX5_ok nmX5 (by decide) w1_140 rfl rfl rfl (by decide +kernel) rfl rfl (Nat.le_of_ble_eq_true rfl) dX5_init_19 cE_set ?_
  refine wy_aload_n C 0 dX5_init_22 rfl rfl ?_
  refine wy_bipush C 40 dX5_init_23 (by decide) ?_
  refine wy_newI C 40 _ (by decide) (by decide) (by decide) (by rw [hxk]; decide) (by rw [hxo]; decide) dX5_init_25 (cE_push (by decide) rfl) ?_
  refine wy_putF C hi 9 5 (fs := [.null, .null, .null, .ref (X.1.1 + 10), .ref (X.1.1 + 11), .null, .null, .null, .int 0, .int 0, .int 0]) (ty := (.array .int)) tyX5 (cE X.1 E 9 (.inr (5, [.null, .null, .null, .ref (X.1.1 + 10), .ref (X.1.1 + 11), .ref (X.1.1 + 12), .null, .null, .int 0, .int 0, .int 0]))) (by decide) cE_at rfl inX5 tyX5_ok nmX5 (by decide) w1_142 rfl rfl rfl (by decide +kernel) rfl rfl (Nat.le_of_ble_eq_true rfl) dX5_init_27 cE_set ?_
  refine wy_aload_n C 0 dX5_init_30 rfl rfl ?_
  refine wy_bipush C 40 dX5_init_31 (by decide) ?_
  refine wy_newI C 40 _ (by decide) (by decide) (by decide) (by rw [hxk]; decide) (by rw [hxo]; decide) dX5_init_33 (cE_push (by decide) rfl) ?_
  refine wy_putF C hi 9 6 (fs := [.null, .null, .null, .ref (X.1.1 + 10), .ref (X.1.1 + 11), .ref (X.1.1 + 12), .null, .null, .int 0, .int 0, .int 0]) (ty := (.array .int)) tyX5 (cE X.1 E 9 (.inr (5, [.null, .null, .null, .ref (X.1.1 + 10), .ref (X.1.1 + 11), .ref (X.1.1 + 12), .ref (X.1.1 + 13), .null, .int 0, .int 0, .int 0]))) (by decide) cE_at rfl inX5 tyX5_ok nmX5 (by decide) w1_143 rfl rfl rfl (by decide +kernel) rfl rfl (Nat.le_of_ble_eq_true rfl) dX5_init_35 cE_set ?_
  refine wy_aload_n C 0 dX5_init_38 rfl rfl ?_
  refine wy_new C 6 (fs := [.null, .int 0]) tyX6 rfl inX6 tyX6_ok w1_114 w1_115 w1_6 (fun j hj => by rcases (show j = 0 ∨ j = 1 by omega) with rfl | rfl <;> rfl) _ (by rw [hxk]; decide) (by rw [hxo]; decide) dX5_init_39 (fun _ _ => rfl) ?_
  refine wy_dup C dX5_init_42 rfl ?_
  refine wy_initN C Y (k := 14) (n := 0) (As := []) (rest := [.ref (X.1.1 + 14), .ref (X.1.1 + 9)]) (t_X6_init X.1 _ rw_14 (va_up_self _ _ _)) Y.2.2.1 w1_117 w1_6 w1_118 (by decide +kernel) rfl (by decide) (by decide) rfl rfl (Nat.le_of_ble_eq_true rfl) (by rw [hxk]; decide) (by rw [hxo]; decide) dX5_init_43 ?_
  refine wy_cg (F := cE X.1 E 9 (.inr (5, [.null, .null, .null, .ref (X.1.1 + 10), .ref (X.1.1 + 11), .ref (X.1.1 + 12), .ref (X.1.1 + 13), .null, .int 0, .int 0, .int 0]))) (fun j _ => eE_push (by decide) j) ?_
  refine wy_putF C hi 9 7 (fs := [.null, .null, .null, .ref (X.1.1 + 10), .ref (X.1.1 + 11), .ref (X.1.1 + 12), .ref (X.1.1 + 13), .null, .int 0, .int 0, .int 0]) (ty := (.object "NightDots$Row")) tyX5 (cE X.1 E 9 (.inr (5, [.null, .null, .null, .ref (X.1.1 + 10), .ref (X.1.1 + 11), .ref (X.1.1 + 12), .ref (X.1.1 + 13), .ref (X.1.1 + 14), .int 0, .int 0, .int 0]))) (by decide) cE_at rfl inX5 tyX5_ok nmX5 (by decide) w1_144 rfl rfl rfl (by decide +kernel) rfl rfl (Nat.le_of_ble_eq_true rfl) dX5_init_46 cE_set ?_
  refine wy_aload_n C 0 dX5_init_49 rfl rfl ?_
  refine wy_aload_n C 1 dX5_init_50 rfl rfl ?_
  refine wy_putF C hi 9 0 (fs := [.null, .null, .null, .ref (X.1.1 + 10), .ref (X.1.1 + 11), .ref (X.1.1 + 12), .ref (X.1.1 + 13), .ref (X.1.1 + 14), .int 0, .int 0, .int 0]) (ty := (.object "NightDots$Sky")) tyX5 (cE X.1 E 9 (.inr (5, [.ref (X.1.1 + 1), .null, .null, .ref (X.1.1 + 10), .ref (X.1.1 + 11), .ref (X.1.1 + 12), .ref (X.1.1 + 13), .ref (X.1.1 + 14), .int 0, .int 0, .int 0]))) (by decide) cE_at rfl inX5 tyX5_ok nmX5 (by decide) w1_135 rfl rfl rfl (by decide +kernel) rfl rfl (Nat.le_of_ble_eq_true rfl) dX5_init_51 cE_set ?_
  refine wy_aload_n C 0 dX5_init_54 rfl rfl ?_
  refine wy_aload_n C 2 dX5_init_55 rfl rfl ?_
  refine wy_putF C hi 9 1 (fs := [.ref (X.1.1 + 1), .null, .null, .ref (X.1.1 + 10), .ref (X.1.1 + 11), .ref (X.1.1 + 12), .ref (X.1.1 + 13), .ref (X.1.1 + 14), .int 0, .int 0, .int 0]) (ty := (.object "NightDots$Net")) tyX5 (cE X.1 E 9 (.inr (5, [.ref (X.1.1 + 1), .ref (X.1.1 + 7), .null, .ref (X.1.1 + 10), .ref (X.1.1 + 11), .ref (X.1.1 + 12), .ref (X.1.1 + 13), .ref (X.1.1 + 14), .int 0, .int 0, .int 0]))) (by decide) cE_at rfl inX5 tyX5_ok nmX5 (by decide) w1_136 rfl rfl rfl (by decide +kernel) rfl rfl (Nat.le_of_ble_eq_true rfl) dX5_init_56 cE_set ?_
  refine wy_aload_n C 0 dX5_init_59 rfl rfl ?_
  refine wy_aload_n C 3 dX5_init_60 rfl rfl ?_
  refine wy_putF C hi 9 2 (fs := [.ref (X.1.1 + 1), .ref (X.1.1 + 7), .null, .ref (X.1.1 + 10), .ref (X.1.1 + 11), .ref (X.1.1 + 12), .ref (X.1.1 + 13), .ref (X.1.1 + 14), .int 0, .int 0, .int 0]) (ty := (.object "NightDots$BitList")) tyX5 (cE X.1 E 9 (.inr (5, [.ref (X.1.1 + 1), .ref (X.1.1 + 7), .ref (X.1.1 + 8), .ref (X.1.1 + 10), .ref (X.1.1 + 11), .ref (X.1.1 + 12), .ref (X.1.1 + 13), .ref (X.1.1 + 14), .int 0, .int 0, .int 0]))) (by decide) cE_at rfl inX5 tyX5_ok nmX5 (by decide) w1_137 rfl rfl rfl (by decide +kernel) rfl rfl (Nat.le_of_ble_eq_true rfl) dX5_init_61 cE_set ?_
  exact wy_ret C hQ dX5_init_64 (by rw [hxk]; decide) (by rw [hxo]; decide) (fun j _ => cE_out rfl j)
set_option maxHeartbeats 4000000 in
set_option maxRecDepth 100000 in
theorem lp_X9_init {X : g_X} {E : Nat → va_E} (hxk : xk X = 37) (hxo : xo X = 264) (C : Cx X cX9_init 3 RX9 none 3) (Y : Cy X) (hQ : Ry X 54 (eE X.1 E 16)) : ∀ (n i : Nat), i ≤ 12 → 12 < i + n → wy X (18 + 3 * i) (cE X.1 (cE X.1 E 16 (.inr (9, [.ref (X.1.1 + 1), .ref (X.1.1 + 17), .int 0]))) 17 (.inl (X.1.2.2 2, 12, .inr (.inr (.inr (.inr (fun q => if q < i ∨ 12 ≤ q then some (X.1.1 + (18 + 3 * q)) else none))))) : va_E)) (1 + 3 * i) (12 + 21 * i) 20 [(0, .ref (X.1.1 + 16)), (1, .ref (X.1.1 + 1)), (2, .int (nI i))] [] := by
  intro n
  induction n with
  | zero =>
    intro i h1 h2
    exact absurd h2 (by omega)
  | succ n ih =>
    intro i hi0 hin
    refine wy_iload_n C 2 dX9_init_20 rfl rfl ?_
    refine wy_bipush C 12 dX9_init_21 (by decide) ?_
    refine wy_icmp_ge C 45 dX9_init_23 (by decide) (fun c23 => ?_) (fun c23 => ?_)
    · have hib : i = 12 := by
        rw [show (12 : Int32) = nI 12 from rfl] at c23
        exact Nat.le_antisymm hi0 ((nI_leI (by omega) (by omega)).mp c23)
      subst hib
      refine wy_ret C hQ dX9_init_45 (by rw [hxk]; decide) (by rw [hxo]; decide) (fun j _ => cE_out2 rfl ?_ (by decide) j)
      show _ = (.inl (X.1.2.2 2, 12, .inr (.inr (.inr (.inr (fun i => some (X.1.1 + (18 + 3 * i))))))) : va_E)
      refine congrArg (fun f => (.inl (X.1.2.2 2, 12, .inr (.inr (.inr (.inr f)))) : va_E)) ?_
      funext q
      rw [if_pos (by omega)]
    · have hi : i < 12 := by
        rw [show (12 : Int32) = nI 12 from rfl] at c23
        exact Nat.lt_of_not_le (fun h => c23 ((nI_leI (by omega) (by omega)).mpr h))
      refine wy_aload_n C 0 dX9_init_26 rfl rfl ?_
      refine wy_get C 16 1 (by omega) ((cE_lt (by decide)).trans cE_at) rfl inX9 (by decide) w1_201 rfl rfl dX9_init_27 ?_
      refine wy_iload_n C 2 dX9_init_30 rfl rfl ?_
      refine wy_new C 8 (fs := [.int 0, .int 0, .null]) tyX8 rfl inX8 tyX8_ok w1_177 w1_179 w1_8 (fun j hj => by rcases (show j = 0 ∨ j = 1 ∨ j = 2 by omega) with rfl | rfl | rfl <;> rfl) _ (by rw [hxk]; omega) (by rw [hxo]; omega) dX9_init_31 (fun _ _ => rfl) ?_
      refine wy_dup C dX9_init_34 rfl ?_
      refine wy_initN C Y (k := 18 + 3 * i) (n := 0) (As := []) (rest := [.ref (X.1.1 + (18 + 3 * i)), .int (nI i), .ref (X.1.1 + 17)]) (t_X8_init X.1 _ hi rfl (va_up_self _ _ _)) Y.2.2.2.1 w1_181 w1_8 w1_182 (by decide +kernel) rfl (by decide) (by decide) rfl rfl (Nat.le_of_ble_eq_true rfl) (by rw [hxk]; omega) (by rw [hxo]; omega) dX9_init_35 ?_
      refine wy_cg (F := cE X.1 (cE X.1 E 16 (.inr (9, [.ref (X.1.1 + 1), .ref (X.1.1 + 17), .int 0]))) 17 (.inl (X.1.2.2 2, 12, .inr (.inr (.inr (.inr (fun q => if q < i ∨ 12 ≤ q then some (X.1.1 + (18 + 3 * q)) else none))))) : va_E)) (fun j _ => eE_push (by omega) j) ?_
      refine wy_ast (f := (fun q => if q < i ∨ 12 ≤ q then some (X.1.1 + (18 + 3 * q)) else none)) C 17 2 (18 + 3 * i) 8 (r := (RX8, TX8, 3)) (vs := [.int 0, .int 0, .ref (X.1.1 + (19 + 3 * i))]) i (cE X.1 (cE X.1 E 16 (.inr (9, [.ref (X.1.1 + 1), .ref (X.1.1 + 17), .int 0]))) 17 (.inl (X.1.2.2 2, 12, .inr (.inr (.inr (.inr (fun q => if q < (i + 1) ∨ 12 ≤ q then some (X.1.1 + (18 + 3 * q)) else none))))) : va_E)) (by omega) cE_at rfl (by omega) ?_ rfl rfl hi (by decide) dX9_init_38 (fun j hj => ?_) ?_
      · unfold cE
        rw [if_neg (by omega), if_neg (by omega)]
        show g_sh _ _ _ _ = _
        rw [sh_wan hi, M0_z (by omega) (by omega) (by omega)]
      · have hz := cE_set (G := X.1) (E := cE X.1 E 16 (.inr (9, [.ref (X.1.1 + 1), .ref (X.1.1 + 17), .int 0]))) (k := 17) (e := (.inl (X.1.2.2 2, 12, .inr (.inr (.inr (.inr (fun q => if q < i ∨ 12 ≤ q then some (X.1.1 + (18 + 3 * q)) else none))))) : va_E)) (x := (.inl (X.1.2.2 2, 12, .inr (.inr (.inr (.inr (fun q => if q < (i + 1) ∨ 12 ≤ q then some (X.1.1 + (18 + 3 * q)) else none))))) : va_E)) j hj
        rw [← hz]
        refine congrArg (fun f => va_up _ 17 (.inl (X.1.2.2 2, 12, .inr (.inr (.inr (.inr f)))) : va_E) j) ?_
        funext q
        unfold va_up
        by_cases hq : q = i
        · subst hq
          rw [if_pos rfl, if_pos (by omega)]
        · rw [if_neg hq]
          dsimp only
          by_cases hq2 : q < i ∨ 12 ≤ q
          · rw [if_pos hq2, if_pos (by omega)]
          · rw [if_neg hq2, if_neg (by omega)]
      refine wy_iinc C (v := nI (i + 1)) 2 [1, 2, 0] [(0, .ref (X.1.1 + 16)), (1, .ref (X.1.1 + 1)), (2, .int (nI (i + 1)))] dX9_init_39 rfl (nI_1 _) (by decide) rfl ?_
      refine wy_goto C 20 dX9_init_42 (by decide) ?_
      refine wy_wd (ck2 := 1 + 3 * (i + 1)) (co2 := 12 + 21 * (i + 1)) (by omega) (by omega) ?_
      have h := ih (i + 1) (by omega) (by omega)
      rw [show 18 + 3 * (i + 1) = 18 + 3 * i + 1 + 1 + 1 by omega] at h
      exact h
set_option maxHeartbeats 4000000 in
set_option maxRecDepth 100000 in
theorem t_X9_init (G : g_G) (E : Nat → va_E) (hE : E 16 = .inr (9, [.null, .null, .int 0])) : mk G yX9_init (Cond.code yX9_init cX9_init 3 none) 3 37 264 [.ref (G.1 + 16), .ref (G.1 + 1)] 17 E 54 (eE G E 16) := by
  refine mk_of (by decide) rfl rfl (Nat.le_of_ble_eq_true rfl) [(0, .ref (G.1 + 16)), (1, .ref (G.1 + 1))] rfl (fun X hG hxk hxo C Y hi hQ => ?_)
  subst hG
  refine wy_cg (cE_in (G := X.1) hE) ?_
  refine wy_aload_n C 0 dX9_init_0 rfl rfl ?_
  refine wy_obj C w1_176 (by decide) (Nat.le_of_ble_eq_true rfl) dX9_init_1 ?_
  refine wy_aload_n C 0 dX9_init_4 rfl rfl ?_
  refine wy_bipush C 12 dX9_init_5 (by decide) ?_
  refine wy_newA C 2 rfl Y.2.2.2.2.2.2.2.2.2.1 w1_177 12 (fun q => if q < 0 ∨ 12 ≤ q then some (X.1.1 + (18 + 3 * q)) else none) (fun j hj => if_neg (by omega)) _ (by decide) (by decide) (by decide) (by rw [hxk]; decide) (by rw [hxo]; decide) dX9_init_7 cE_nest ?_
  refine wy_putF C hi 16 1 (ty := .array (.object "NightDots$Wanderer")) tyX9 _ (by decide) ((cE_lt (by decide)).trans cE_at) rfl inX9 tyX9_ok nmX9 (by decide) w1_201 rfl rfl rfl (by decide +kernel) rfl rfl (Nat.le_of_ble_eq_true rfl) dX9_init_10 (cE_set2 (by decide)) ?_
  refine wy_aload_n C 0 dX9_init_13 rfl rfl ?_
  refine wy_aload_n C 1 dX9_init_14 rfl rfl ?_
  refine wy_putF C hi 16 0 (ty := .object "NightDots$Sky") tyX9 _ (by decide) ((cE_lt (by decide)).trans cE_at) rfl inX9 tyX9_ok nmX9 (by decide) w1_200 rfl rfl rfl (by decide +kernel) rfl rfl (Nat.le_of_ble_eq_true rfl) dX9_init_15 (cE_set2 (by decide)) ?_
  refine wy_iconst C 0 dX9_init_18 (by decide) ?_
  refine wy_istore_n C [1, 2, 0] [(0, .ref (X.1.1 + 16)), (1, .ref (X.1.1 + 1)), (2, .int 0)] dX9_init_19 rfl (by decide) rfl ?_
  exact lp_X9_init hxk hxo C Y hQ 13 0 (by omega) (by omega)
set_option maxHeartbeats 4000000 in
set_option maxRecDepth 100000 in
theorem lp_X1_init {X : g_X} {E : Nat → va_E} (hxk : xk X = 91) (hxo : xo X = 690) (C : Cx X cX1_init 2 RX1 none 3) (Y : Cy X) (hQ : Ry X 146 (eE X.1 E 54)) : ∀ (n i : Nat), i ≤ 30 → 30 < i + n → wy X (56 + 3 * i) (cE X.1 (cE X.1 E 54 (.inr (1, [.ref (X.1.1 + 55), .int 0, .int 0]))) 55 (.inl (X.1.2.2 3, 30, .inr (.inr (.inr (.inr (fun q => if q < i ∨ 30 ≤ q then some (X.1.1 + (56 + 3 * q)) else none))))) : va_E)) (1 + 3 * i) (30 + 22 * i) 15 [(0, .ref (X.1.1 + 54)), (1, .int (nI i))] [] := by
  intro n
  induction n with
  | zero =>
    intro i h1 h2
    exact absurd h2 (by omega)
  | succ n ih =>
    intro i hi0 hin
    refine wy_iload_n C 1 dX1_init_15 rfl rfl ?_
    refine wy_bipush C 30 dX1_init_16 (by decide) ?_
    refine wy_icmp_ge C 40 dX1_init_18 (by decide) (fun c18 => ?_) (fun c18 => ?_)
    · have hib : i = 30 := by
        rw [show (30 : Int32) = nI 30 from rfl] at c18
        exact Nat.le_antisymm hi0 ((nI_leI (by omega) (by omega)).mp c18)
      subst hib
      refine wy_ret C hQ dX1_init_40 (by rw [hxk]; decide) (by rw [hxo]; decide) (fun j _ => cE_out2 rfl ?_ (by decide) j)
      show _ = (.inl (X.1.2.2 3, 30, .inr (.inr (.inr (.inr (fun i => some (X.1.1 + (56 + 3 * i))))))) : va_E)
      refine congrArg (fun f => (.inl (X.1.2.2 3, 30, .inr (.inr (.inr (.inr f)))) : va_E)) ?_
      funext q
      rw [if_pos (by omega)]
    · have hi : i < 30 := by
        rw [show (30 : Int32) = nI 30 from rfl] at c18
        exact Nat.lt_of_not_le (fun h => c18 ((nI_leI (by omega) (by omega)).mpr h))
      refine wy_aload_n C 0 dX1_init_21 rfl rfl ?_
      refine wy_get C 54 0 (by omega) ((cE_lt (by decide)).trans cE_at) rfl inX1 (by decide) w2_5 rfl rfl dX1_init_22 ?_
      refine wy_iload_n C 1 dX1_init_25 rfl rfl ?_
      refine wy_new C 0 (fs := [.int 0, .int 0, .int 0, .null]) tyX0 rfl inX0 tyX0_ok w1_218 w1_220 w1_10 (fun j hj => by rcases (show j = 0 ∨ j = 1 ∨ j = 2 ∨ j = 3 by omega) with rfl | rfl | rfl | rfl <;> rfl) _ (by rw [hxk]; omega) (by rw [hxo]; omega) dX1_init_26 (fun _ _ => rfl) ?_
      refine wy_dup C dX1_init_29 rfl ?_
      refine wy_initN C Y (k := 56 + 3 * i) (n := 0) (As := []) (rest := [.ref (X.1.1 + (56 + 3 * i)), .int (nI i), .ref (X.1.1 + 55)]) (t_X0_init X.1 _ hi rfl (va_up_self _ _ _)) Y.2.2.2.2.2.1 w1_222 w1_10 w1_223 (by decide +kernel) rfl (by decide) (by decide) rfl rfl (Nat.le_of_ble_eq_true rfl) (by rw [hxk]; omega) (by rw [hxo]; omega) dX1_init_30 ?_
      refine wy_cg (F := cE X.1 (cE X.1 E 54 (.inr (1, [.ref (X.1.1 + 55), .int 0, .int 0]))) 55 (.inl (X.1.2.2 3, 30, .inr (.inr (.inr (.inr (fun q => if q < i ∨ 30 ≤ q then some (X.1.1 + (56 + 3 * q)) else none))))) : va_E)) (fun j _ => eE_push (by omega) j) ?_
      refine wy_ast (f := (fun q => if q < i ∨ 30 ≤ q then some (X.1.1 + (56 + 3 * q)) else none)) C 55 3 (56 + 3 * i) 0 (r := (RX0, TX0, 4)) (vs := [.int 0, .int 0, .int 0, .ref (X.1.1 + (57 + 3 * i))]) i (cE X.1 (cE X.1 E 54 (.inr (1, [.ref (X.1.1 + 55), .int 0, .int 0]))) 55 (.inl (X.1.2.2 3, 30, .inr (.inr (.inr (.inr (fun q => if q < (i + 1) ∨ 30 ≤ q then some (X.1.1 + (56 + 3 * q)) else none))))) : va_E)) (by omega) cE_at rfl (by omega) ?_ rfl rfl hi (by decide) dX1_init_33 (fun j hj => ?_) ?_
      · unfold cE
        rw [if_neg (by omega), if_neg (by omega)]
        show g_sh _ _ _ _ = _
        rw [sh_act hi, M0_z (by omega) (by omega) (by omega)]
      · have hz := cE_set (G := X.1) (E := cE X.1 E 54 (.inr (1, [.ref (X.1.1 + 55), .int 0, .int 0]))) (k := 55) (e := (.inl (X.1.2.2 3, 30, .inr (.inr (.inr (.inr (fun q => if q < i ∨ 30 ≤ q then some (X.1.1 + (56 + 3 * q)) else none))))) : va_E)) (x := (.inl (X.1.2.2 3, 30, .inr (.inr (.inr (.inr (fun q => if q < (i + 1) ∨ 30 ≤ q then some (X.1.1 + (56 + 3 * q)) else none))))) : va_E)) j hj
        rw [← hz]
        refine congrArg (fun f => va_up _ 55 (.inl (X.1.2.2 3, 30, .inr (.inr (.inr (.inr f)))) : va_E) j) ?_
        funext q
        unfold va_up
        by_cases hq : q = i
        · subst hq
          rw [if_pos rfl, if_pos (by omega)]
        · rw [if_neg hq]
          dsimp only
          by_cases hq2 : q < i ∨ 30 ≤ q
          · rw [if_pos hq2, if_pos (by omega)]
          · rw [if_neg hq2, if_neg (by omega)]
      refine wy_iinc C (v := nI (i + 1)) 1 [1, 0] [(0, .ref (X.1.1 + 54)), (1, .int (nI (i + 1)))] dX1_init_34 rfl (nI_1 _) (by decide) rfl ?_
      refine wy_goto C 15 dX1_init_37 (by decide) ?_
      refine wy_wd (ck2 := 1 + 3 * (i + 1)) (co2 := 30 + 22 * (i + 1)) (by omega) (by omega) ?_
      have h := ih (i + 1) (by omega) (by omega)
      rw [show 56 + 3 * (i + 1) = 56 + 3 * i + 1 + 1 + 1 by omega] at h
      exact h
set_option maxHeartbeats 4000000 in
set_option maxRecDepth 100000 in
theorem t_X1_init (G : g_G) (E : Nat → va_E) (hE : E 54 = .inr (1, [.null, .int 0, .int 0])) : mk G yX1_init (Cond.code yX1_init cX1_init 2 none) 3 91 690 [.ref (G.1 + 54)] 55 E 146 (eE G E 54) := by
  refine mk_of (by decide) rfl rfl (Nat.le_of_ble_eq_true rfl) [(0, .ref (G.1 + 54))] rfl (fun X hG hxk hxo C Y hi hQ => ?_)
  subst hG
  refine wy_cg (cE_in (G := X.1) hE) ?_
  refine wy_aload_n C 0 dX1_init_0 rfl rfl ?_
  refine wy_obj C w1_217 (by decide) (Nat.le_of_ble_eq_true rfl) dX1_init_1 ?_
  refine wy_aload_n C 0 dX1_init_4 rfl rfl ?_
  refine wy_bipush C 30 dX1_init_5 (by decide) ?_
  refine wy_newA C 3 rfl Y.2.2.2.2.2.2.2.2.2.2 w1_218 30 (fun q => if q < 0 ∨ 30 ≤ q then some (X.1.1 + (56 + 3 * q)) else none) (fun j hj => if_neg (by omega)) _ (by decide) (by decide) (by decide) (by rw [hxk]; decide) (by rw [hxo]; decide) dX1_init_7 cE_nest ?_
  refine wy_putF C hi 54 0 (ty := .array (.object "NightDots$Act")) tyX1 _ (by decide) ((cE_lt (by decide)).trans cE_at) rfl inX1 tyX1_ok nmX1 (by decide) w2_5 rfl rfl rfl (by decide +kernel) rfl rfl (Nat.le_of_ble_eq_true rfl) dX1_init_10 (cE_set2 (by decide)) ?_
  refine wy_iconst C 0 dX1_init_13 (by decide) ?_
  refine wy_istore_n C [1, 0] [(0, .ref (X.1.1 + 54)), (1, .int 0)] dX1_init_14 rfl (by decide) rfl ?_
  exact lp_X1_init hxk hxo C Y hQ 31 0 (by omega) (by omega)
set_option maxHeartbeats 4000000 in
set_option maxRecDepth 100000 in
theorem t_X10_init (G : g_G) (E : Nat → va_E) (hE : E 0 = .inr (10, [.null, .null, .null, .null, .null, .null, .null, .null])) : mk G yX10_init (Cond.code yX10_init cX10_init 1 none) 4 148 2967 [.ref (G.1 + 0)] 1 E 149 (eE G E 0) := by
  refine mk_of (by decide) rfl rfl (Nat.le_of_ble_eq_true rfl) [(0, .ref (G.1 + 0))] rfl (fun X hG hxk hxo C Y hi hQ => ?_)
  subst hG
  refine wy_cg (cE_in (G := X.1) hE) ?_
  refine wy_aload_n C 0 dX10_init_0 rfl rfl ?_
  refine wy_obj C w1_20 (by decide) (Nat.le_of_ble_eq_true rfl) dX10_init_1 ?_
  refine wy_aload_n C 0 dX10_init_4 rfl rfl ?_
  refine wy_new C 7 (fs := [.null, .null, .null, .null, .null, .int 0]) tyX7 rfl inX7 tyX7_ok w1_23 w1_24 w1_2 (fun j hj => by rcases (show j = 0 ∨ j = 1 ∨ j = 2 ∨ j = 3 ∨ j = 4 ∨ j = 5 by omega) with rfl | rfl | rfl | rfl | rfl | rfl <;> rfl) _ (by rw [hxk]; decide) (by rw [hxo]; decide) dX10_init_5 (fun _ _ => rfl) ?_
  refine wy_dup C dX10_init_8 rfl ?_
  refine wy_initN C Y (k := 1) (n := 0) (As := []) (rest := [.ref (X.1.1 + 1), .ref (X.1.1 + 0)]) (t_X7_init X.1 _ (va_up_self _ _ _)) Y.2.1 w1_26 w1_2 w1_27 (by decide +kernel) rfl (by decide) (by decide) rfl rfl (Nat.le_of_ble_eq_true rfl) (by rw [hxk]; decide) (by rw [hxo]; decide) dX10_init_9 ?_
  refine wy_cg (F := cE X.1 E 0 (.inr (10, [.null, .null, .null, .null, .null, .null, .null, .null]))) (fun j _ => eE_push (by decide) j) ?_
  refine wy_putF C hi 0 0 (fs := [.null, .null, .null, .null, .null, .null, .null, .null]) (ty := (.object "NightDots$Sky")) tyX10 (cE X.1 E 0 (.inr (10, [.ref (X.1.1 + 1), .null, .null, .null, .null, .null, .null, .null]))) (by decide) cE_at rfl inX10 tyX10_ok nmX10 (by decide) w2_42 rfl rfl rfl (by decide +kernel) rfl rfl (Nat.le_of_ble_eq_true rfl) dX10_init_12 cE_set ?_
  refine wy_aload_n C 0 dX10_init_15 rfl rfl ?_
  refine wy_new C 4 (fs := [.null, .int 0, .int 0, .int 0, .int 0]) tyX4 rfl inX4 tyX4_ok w1_62 w1_63 w1_3 (fun j hj => by rcases (show j = 0 ∨ j = 1 ∨ j = 2 ∨ j = 3 ∨ j = 4 by omega) with rfl | rfl | rfl | rfl | rfl <;> rfl) _ (by rw [hxk]; decide) (by rw [hxo]; decide) dX10_init_16 (fun _ _ => rfl) ?_
  refine wy_dup C dX10_init_19 rfl ?_
  refine wy_aload_n C 0 dX10_init_20 rfl rfl ?_
  refine wy_get C 0 0 (by decide) (by rw [va_up_ne _ _ (by decide)]; exact cE_at) rfl inX10 (by decide) w2_42 rfl rfl dX10_init_21 ?_
  refine wy_init C Y (k := 7) (n := 1) (As := [.ref (X.1.1 + 1)]) (rest := [.ref (X.1.1 + 7), .ref (X.1.1 + 0)]) (t_X4_init X.1 _ (va_up_self _ _ _)) w1_64 w1_65 w1_3 w1_66 (by decide +kernel) rfl (by decide) (by decide) rfl rfl (Nat.le_of_ble_eq_true rfl) (by rw [hxk]; decide) (by rw [hxo]; decide) dX10_init_24 ?_
  refine wy_cg (F := cE X.1 E 0 (.inr (10, [.ref (X.1.1 + 1), .null, .null, .null, .null, .null, .null, .null]))) (fun j _ => eE_push (by decide) j) ?_
  refine wy_putF C hi 0 1 (fs := [.ref (X.1.1 + 1), .null, .null, .null, .null, .null, .null, .null]) (ty := (.object "NightDots$Net")) tyX10 (cE X.1 E 0 (.inr (10, [.ref (X.1.1 + 1), .ref (X.1.1 + 7), .null, .null, .null, .null, .null, .null]))) (by decide) cE_at rfl inX10 tyX10_ok nmX10 (by decide) w2_43 rfl rfl rfl (by decide +kernel) rfl rfl (Nat.le_of_ble_eq_true rfl) dX10_init_27 cE_set ?_
  refine wy_aload_n C 0 dX10_init_30 rfl rfl ?_
  refine wy_new C 2 (fs := [.null, .int 0, .int 0, .int 0]) tyX2 rfl inX2 tyX2_ok w1_86 w1_87 w1_4 (fun j hj => by rcases (show j = 0 ∨ j = 1 ∨ j = 2 ∨ j = 3 by omega) with rfl | rfl | rfl | rfl <;> rfl) _ (by rw [hxk]; decide) (by rw [hxo]; decide) dX10_init_31 (fun _ _ => rfl) ?_
  refine wy_dup C dX10_init_34 rfl ?_
  refine wy_aload_n C 0 dX10_init_35 rfl rfl ?_
  refine wy_get C 0 0 (by decide) (by rw [va_up_ne _ _ (by decide)]; exact cE_at) rfl inX10 (by decide) w2_42 rfl rfl dX10_init_36 ?_
  refine wy_init C Y (k := 8) (n := 1) (As := [.ref (X.1.1 + 1)]) (rest := [.ref (X.1.1 + 8), .ref (X.1.1 + 0)]) (t_X2_init X.1 _ (va_up_self _ _ _)) w1_88 w1_89 w1_4 w1_90 (by decide +kernel) rfl (by decide) (by decide) rfl rfl (Nat.le_of_ble_eq_true rfl) (by rw [hxk]; decide) (by rw [hxo]; decide) dX10_init_39 ?_
  refine wy_cg (F := cE X.1 E 0 (.inr (10, [.ref (X.1.1 + 1), .ref (X.1.1 + 7), .null, .null, .null, .null, .null, .null]))) (fun j _ => eE_push (by decide) j) ?_
  refine wy_putF C hi 0 2 (fs := [.ref (X.1.1 + 1), .ref (X.1.1 + 7), .null, .null, .null, .null, .null, .null]) (ty := (.object "NightDots$BitList")) tyX10 (cE X.1 E 0 (.inr (10, [.ref (X.1.1 + 1), .ref (X.1.1 + 7), .ref (X.1.1 + 8), .null, .null, .null, .null, .null]))) (by decide) cE_at rfl inX10 tyX10_ok nmX10 (by decide) w2_44 rfl rfl rfl (by decide +kernel) rfl rfl (Nat.le_of_ble_eq_true rfl) dX10_init_42 cE_set ?_
  refine wy_aload_n C 0 dX10_init_45 rfl rfl ?_
  refine wy_new C 5 (fs := [.null, .null, .null, .null, .null, .null, .null, .null, .int 0, .int 0, .int 0]) tyX5 rfl inX5 tyX5_ok w1_108 w1_109 w1_5 (fun j hj => by rcases (show j = 0 ∨ j = 1 ∨ j = 2 ∨ j = 3 ∨ j = 4 ∨ j = 5 ∨ j = 6 ∨ j = 7 ∨ j = 8 ∨ j = 9 ∨ j = 10 by omega) with rfl | rfl | rfl | rfl | rfl | rfl | rfl | rfl | rfl | rfl | rfl <;> rfl) _ (by rw [hxk]; decide) (by rw [hxo]; decide) dX10_init_46 (fun _ _ => rfl) ?_
  refine wy_dup C dX10_init_49 rfl ?_
  refine wy_aload_n C 0 dX10_init_50 rfl rfl ?_
  refine wy_get C 0 0 (by decide) (by rw [va_up_ne _ _ (by decide)]; exact cE_at) rfl inX10 (by decide) w2_42 rfl rfl dX10_init_51 ?_
  refine wy_aload_n C 0 dX10_init_54 rfl rfl ?_
  refine wy_get C 0 1 (by decide) (by rw [va_up_ne _ _ (by decide)]; exact cE_at) rfl inX10 (by decide) w2_43 rfl rfl dX10_init_55 ?_
  refine wy_aload_n C 0 dX10_init_58 rfl rfl ?_
  refine wy_get C 0 2 (by decide) (by rw [va_up_ne _ _ (by decide)]; exact cE_at) rfl inX10 (by decide) w2_44 rfl rfl dX10_init_59 ?_
  refine wy_init C Y (k := 9) (n := 3) (As := [.ref (X.1.1 + 1), .ref (X.1.1 + 7), .ref (X.1.1 + 8)]) (rest := [.ref (X.1.1 + 9), .ref (X.1.1 + 0)]) (t_X5_init X.1 _ (va_up_self _ _ _)) w1_110 w1_111 w1_5 w1_112 (by decide +kernel) rfl (by decide) (by decide) rfl rfl (Nat.le_of_ble_eq_true rfl) (by rw [hxk]; decide) (by rw [hxo]; decide) dX10_init_62 ?_
  refine wy_cg (F := cE X.1 E 0 (.inr (10, [.ref (X.1.1 + 1), .ref (X.1.1 + 7), .ref (X.1.1 + 8), .null, .null, .null, .null, .null]))) (fun j _ => eE_push (by decide) j) ?_
  refine wy_putF C hi 0 3 (fs := [.ref (X.1.1 + 1), .ref (X.1.1 + 7), .ref (X.1.1 + 8), .null, .null, .null, .null, .null]) (ty := (.object "NightDots$PairList")) tyX10 (cE X.1 E 0 (.inr (10, [.ref (X.1.1 + 1), .ref (X.1.1 + 7), .ref (X.1.1 + 8), .ref (X.1.1 + 9), .null, .null, .null, .null]))) (by decide) cE_at rfl inX10 tyX10_ok nmX10 (by decide) w2_45 rfl rfl rfl (by decide +kernel) rfl rfl (Nat.le_of_ble_eq_true rfl) dX10_init_65 cE_set ?_
  refine wy_aload_n C 0 dX10_init_68 rfl rfl ?_
  refine wy_new C 9 (fs := [.null, .null, .int 0]) tyX9 rfl inX9 tyX9_ok w1_171 w1_172 w1_7 (fun j hj => by rcases (show j = 0 ∨ j = 1 ∨ j = 2 by omega) with rfl | rfl | rfl <;> rfl) _ (by rw [hxk]; decide) (by rw [hxo]; decide) dX10_init_69 (fun _ _ => rfl) ?_
  refine wy_dup C dX10_init_72 rfl ?_
  refine wy_aload_n C 0 dX10_init_73 rfl rfl ?_
  refine wy_get C 0 0 (by decide) (by rw [va_up_ne _ _ (by decide)]; exact cE_at) rfl inX10 (by decide) w2_42 rfl rfl dX10_init_74 ?_
  refine wy_init C Y (k := 16) (n := 1) (As := [.ref (X.1.1 + 1)]) (rest := [.ref (X.1.1 + 16), .ref (X.1.1 + 0)]) (t_X9_init X.1 _ (va_up_self _ _ _)) w1_173 w1_174 w1_7 w1_175 (by decide +kernel) rfl (by decide) (by decide) rfl rfl (Nat.le_of_ble_eq_true rfl) (by rw [hxk]; decide) (by rw [hxo]; decide) dX10_init_77 ?_
  refine wy_cg (F := cE X.1 E 0 (.inr (10, [.ref (X.1.1 + 1), .ref (X.1.1 + 7), .ref (X.1.1 + 8), .ref (X.1.1 + 9), .null, .null, .null, .null]))) (fun j _ => eE_push (by decide) j) ?_
  refine wy_putF C hi 0 4 (fs := [.ref (X.1.1 + 1), .ref (X.1.1 + 7), .ref (X.1.1 + 8), .ref (X.1.1 + 9), .null, .null, .null, .null]) (ty := (.object "NightDots$Wanderers")) tyX10 (cE X.1 E 0 (.inr (10, [.ref (X.1.1 + 1), .ref (X.1.1 + 7), .ref (X.1.1 + 8), .ref (X.1.1 + 9), .ref (X.1.1 + 16), .null, .null, .null]))) (by decide) cE_at rfl inX10 tyX10_ok nmX10 (by decide) w2_46 rfl rfl rfl (by decide +kernel) rfl rfl (Nat.le_of_ble_eq_true rfl) dX10_init_80 cE_set ?_
  refine wy_aload_n C 0 dX10_init_83 rfl rfl ?_
  refine wy_new C 1 (fs := [.null, .int 0, .int 0]) tyX1 rfl inX1 tyX1_ok w1_212 w1_213 w1_9 (fun j hj => by rcases (show j = 0 ∨ j = 1 ∨ j = 2 by omega) with rfl | rfl | rfl <;> rfl) _ (by rw [hxk]; decide) (by rw [hxo]; decide) dX10_init_84 (fun _ _ => rfl) ?_
  refine wy_dup C dX10_init_87 rfl ?_
  refine wy_init C Y (k := 54) (n := 0) (As := []) (rest := [.ref (X.1.1 + 54), .ref (X.1.1 + 0)]) (t_X1_init X.1 _ (va_up_self _ _ _)) w1_214 w1_215 w1_9 w1_216 (by decide +kernel) rfl (by decide) (by decide) rfl rfl (Nat.le_of_ble_eq_true rfl) (by rw [hxk]; decide) (by rw [hxo]; decide) dX10_init_88 ?_
  refine wy_cg (F := cE X.1 E 0 (.inr (10, [.ref (X.1.1 + 1), .ref (X.1.1 + 7), .ref (X.1.1 + 8), .ref (X.1.1 + 9), .ref (X.1.1 + 16), .null, .null, .null]))) (fun j _ => eE_push (by decide) j) ?_
  refine wy_putF C hi 0 5 (fs := [.ref (X.1.1 + 1), .ref (X.1.1 + 7), .ref (X.1.1 + 8), .ref (X.1.1 + 9), .ref (X.1.1 + 16), .null, .null, .null]) (ty := (.object "NightDots$Acts")) tyX10 (cE X.1 E 0 (.inr (10, [.ref (X.1.1 + 1), .ref (X.1.1 + 7), .ref (X.1.1 + 8), .ref (X.1.1 + 9), .ref (X.1.1 + 16), .ref (X.1.1 + 54), .null, .null]))) (by decide) cE_at rfl inX10 tyX10_ok nmX10 (by decide) w2_47 rfl rfl rfl (by decide +kernel) rfl rfl (Nat.le_of_ble_eq_true rfl) dX10_init_91 cE_set ?_
  refine wy_aload_n C 0 dX10_init_94 rfl rfl ?_
  refine wy_new C 3 (fs := [.long 0, .long 0, .long 0, .long 0, .long 0]) tyX3 rfl inX3 tyX3_ok w2_16 w2_17 w1_11 (fun j hj => by rcases (show j = 0 ∨ j = 1 ∨ j = 2 ∨ j = 3 ∨ j = 4 by omega) with rfl | rfl | rfl | rfl | rfl <;> rfl) _ (by rw [hxk]; decide) (by rw [hxo]; decide) dX10_init_95 (fun _ _ => rfl) ?_
  refine wy_dup C dX10_init_98 rfl ?_
  refine wy_initN C Y (k := 146) (n := 0) (As := []) (rest := [.ref (X.1.1 + 146), .ref (X.1.1 + 0)]) (t_X3_init X.1 _ (va_up_self _ _ _)) Y.2.2.2.2.2.2.2.1 w2_19 w1_11 w2_20 (by decide +kernel) rfl (by decide) (by decide) rfl rfl (Nat.le_of_ble_eq_true rfl) (by rw [hxk]; decide) (by rw [hxo]; decide) dX10_init_99 ?_
  refine wy_cg (F := cE X.1 E 0 (.inr (10, [.ref (X.1.1 + 1), .ref (X.1.1 + 7), .ref (X.1.1 + 8), .ref (X.1.1 + 9), .ref (X.1.1 + 16), .ref (X.1.1 + 54), .null, .null]))) (fun j _ => eE_push (by decide) j) ?_
  refine wy_putF C hi 0 6 (fs := [.ref (X.1.1 + 1), .ref (X.1.1 + 7), .ref (X.1.1 + 8), .ref (X.1.1 + 9), .ref (X.1.1 + 16), .ref (X.1.1 + 54), .null, .null]) (ty := (.object "NightDots$Line")) tyX10 (cE X.1 E 0 (.inr (10, [.ref (X.1.1 + 1), .ref (X.1.1 + 7), .ref (X.1.1 + 8), .ref (X.1.1 + 9), .ref (X.1.1 + 16), .ref (X.1.1 + 54), .ref (X.1.1 + 146), .null]))) (by decide) cE_at rfl inX10 tyX10_ok nmX10 (by decide) w2_48 rfl rfl rfl (by decide +kernel) rfl rfl (Nat.le_of_ble_eq_true rfl) dX10_init_102 cE_set ?_
  refine wy_aload_n C 0 dX10_init_105 rfl rfl ?_
  refine wy_new C 6 (fs := [.null, .int 0]) tyX6 rfl inX6 tyX6_ok w2_40 w1_115 w1_6 (fun j hj => by rcases (show j = 0 ∨ j = 1 by omega) with rfl | rfl <;> rfl) _ (by rw [hxk]; decide) (by rw [hxo]; decide) dX10_init_106 (fun _ _ => rfl) ?_
  refine wy_dup C dX10_init_109 rfl ?_
  refine wy_initN C Y (k := 147) (n := 0) (As := []) (rest := [.ref (X.1.1 + 147), .ref (X.1.1 + 0)]) (t_X6_init X.1 _ rw_147 (va_up_self _ _ _)) Y.2.2.2.2.2.2.2.2.1 w1_117 w1_6 w1_118 (by decide +kernel) rfl (by decide) (by decide) rfl rfl (Nat.le_of_ble_eq_true rfl) (by rw [hxk]; decide) (by rw [hxo]; decide) dX10_init_110 ?_
  refine wy_cg (F := cE X.1 E 0 (.inr (10, [.ref (X.1.1 + 1), .ref (X.1.1 + 7), .ref (X.1.1 + 8), .ref (X.1.1 + 9), .ref (X.1.1 + 16), .ref (X.1.1 + 54), .ref (X.1.1 + 146), .null]))) (fun j _ => eE_push (by decide) j) ?_
  refine wy_putF C hi 0 7 (fs := [.ref (X.1.1 + 1), .ref (X.1.1 + 7), .ref (X.1.1 + 8), .ref (X.1.1 + 9), .ref (X.1.1 + 16), .ref (X.1.1 + 54), .ref (X.1.1 + 146), .null]) (ty := (.object "NightDots$Row")) tyX10 (cE X.1 E 0 (.inr (10, [.ref (X.1.1 + 1), .ref (X.1.1 + 7), .ref (X.1.1 + 8), .ref (X.1.1 + 9), .ref (X.1.1 + 16), .ref (X.1.1 + 54), .ref (X.1.1 + 146), .ref (X.1.1 + 147)]))) (by decide) cE_at rfl inX10 tyX10_ok nmX10 (by decide) w2_49 rfl rfl rfl (by decide +kernel) rfl rfl (Nat.le_of_ble_eq_true rfl) dX10_init_113 cE_set ?_
  exact wy_ret C hQ dX10_init_116 (by rw [hxk]; decide) (by rw [hxo]; decide) (fun j _ => cE_out rfl j)
