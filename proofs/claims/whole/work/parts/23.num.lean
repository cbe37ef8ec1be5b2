/-! numbers: rows of the kit's COUNTS.to-paste, pasted -/
theorem fb_rng (x : Int32) : -2147483648 ≤ x.toInt ∧ x.toInt < 2147483648 := by
  have h1 := Int32.le_toInt x
  have h2 := Int32.toInt_lt x
  omega
theorem fb_bmod {z : Int} (h1 : -2147483648 ≤ z) (h2 : z < 2147483648) : z.bmod (2 ^ 32) = z := by
  rw [Int.bmod_eq_of_le (by omega) (by omega)]
theorem fb_addI {x y : Int32} (h1 : -2147483648 ≤ x.toInt + y.toInt) (h2 : x.toInt + y.toInt < 2147483648) : (x + y).toInt = x.toInt + y.toInt := by
  rw [Int32.toInt_add, fb_bmod h1 h2]
theorem fb_subI {x y : Int32} (h1 : -2147483648 ≤ x.toInt - y.toInt) (h2 : x.toInt - y.toInt < 2147483648) : (x - y).toInt = x.toInt - y.toInt := by
  rw [Int32.toInt_sub, fb_bmod h1 h2]
theorem fb_mulI {x y : Int32} (h1 : -2147483648 ≤ x.toInt * y.toInt) (h2 : x.toInt * y.toInt < 2147483648) : (x * y).toInt = x.toInt * y.toInt := by
  rw [Int32.toInt_mul, fb_bmod h1 h2]
theorem fb_negI {x : Int32} (h : x.toInt ≠ -2147483648) : (-x).toInt = -x.toInt := by
  have := fb_rng x
  rw [Int32.toInt_neg, fb_bmod (by omega) (by omega)]
theorem fb_ofI {z : Int} (h1 : -2147483648 ≤ z) (h2 : z < 2147483648) : (Int32.ofInt z).toInt = z := by
  rw [Int32.toInt_ofInt, fb_bmod h1 h2]
theorem fb_asI (x : Int32) : Int32.ofInt x.toInt = x := Int32.ofInt_toInt x
theorem fb_rngL (x : Int64) : -9223372036854775808 ≤ x.toInt ∧ x.toInt < 9223372036854775808 := by
  have h1 := Int64.le_toInt x
  have h2 := Int64.toInt_lt x
  omega
theorem fb_bmodL {z : Int} (h1 : -9223372036854775808 ≤ z) (h2 : z < 9223372036854775808) : z.bmod (2 ^ 64) = z := by
  rw [Int.bmod_eq_of_le (by omega) (by omega)]
theorem fb_addL {x y : Int64} (h1 : -9223372036854775808 ≤ x.toInt + y.toInt) (h2 : x.toInt + y.toInt < 9223372036854775808) : (x + y).toInt = x.toInt + y.toInt := by
  rw [Int64.toInt_add, fb_bmodL h1 h2]
theorem fb_subL {x y : Int64} (h1 : -9223372036854775808 ≤ x.toInt - y.toInt) (h2 : x.toInt - y.toInt < 9223372036854775808) : (x - y).toInt = x.toInt - y.toInt := by
  rw [Int64.toInt_sub, fb_bmodL h1 h2]
theorem fb_mulL {x y : Int64} (h1 : -9223372036854775808 ≤ x.toInt * y.toInt) (h2 : x.toInt * y.toInt < 9223372036854775808) : (x * y).toInt = x.toInt * y.toInt := by
  rw [Int64.toInt_mul, fb_bmodL h1 h2]
/-! ===== floorDiv ===== -/
def jfd (x y : Int32) : Int32 := if 0 ≤ x ^^^ y then x / y else if x / y * y = x then x / y else x / y - 1
theorem xor_nn {x g : Int32} (hg : 0 ≤ g.toInt) : 0 ≤ (x ^^^ g) ↔ 0 ≤ x.toInt := by
  rw [i_le, show (0 : Int32).toInt = 0 from rfl]
  have e1 : (x ^^^ g).toBitVec.msb = decide ((x ^^^ g).toInt < 0) := BitVec.msb_eq_toInt
  have e2 : x.toBitVec.msb = decide (x.toInt < 0) := BitVec.msb_eq_toInt
  have e3 : g.toBitVec.msb = decide (g.toInt < 0) := BitVec.msb_eq_toInt
  rw [Int32.toBitVec_xor, BitVec.msb_xor, e2, e3] at e1
  have e4 : decide (g.toInt < 0) = false := by
    rw [decide_eq_false_iff_not]; omega
  rw [e4, Bool.xor_false] at e1
  have e5 := decide_eq_decide.mp e1
  omega
theorem jfd_toInt {x g : Int32} (hg : 1 ≤ g.toInt) : (jfd x g).toInt = x.toInt / g.toInt := by
  have hrx := fb_rng x
  have hrg := fb_rng g
  have hq : (x / g).toInt = x.toInt.tdiv g.toInt := Int32.toInt_div_of_ne_right x g (by intro e; rw [e] at hg; revert hg; decide)
  unfold jfd
  by_cases hx : 0 ≤ x.toInt
  · rw [if_pos ((xor_nn (by omega)).mpr hx), hq, Int.tdiv_eq_ediv_of_nonneg hx]
  · rw [if_neg (fun h => hx ((xor_nn (by omega)).mp h))]
    have ht := @Int.tdiv_eq_ediv x.toInt g.toInt
    have h1 := Int.ediv_mul_le x.toInt (b := g.toInt) (by omega)
    have h2 := Int.lt_ediv_add_one_mul_self x.toInt (b := g.toInt) (by omega)
    have h3 : x.toInt ≤ x.toInt / g.toInt := by
      apply Int.le_ediv_of_mul_le (by omega)
      have := Int.mul_le_mul_of_nonpos_left (a := x.toInt) (b := g.toInt) (c := 1) (by omega) (by omega)
      omega
    by_cases hd : g.toInt ∣ x.toInt
    · rw [if_pos (Or.inr hd), Int.add_zero] at ht
      have hm : (x / g * g).toInt = x.toInt := by
        rw [fb_mulI] <;> rw [hq, ht, Int.ediv_mul_cancel hd] <;> omega
      rw [if_pos (Int32.toInt_inj.mp hm), hq, ht]
    · rw [if_neg (by intro h; rcases h with h | h; exact hx h; exact hd h), Int.sign_eq_one_of_pos (by omega)] at ht
      rw [Int.add_mul, Int.one_mul] at h2
      have e : (x.toInt / g.toInt + 1) * g.toInt = x.toInt / g.toInt * g.toInt + g.toInt := by rw [Int.add_mul, Int.one_mul]
      have hE : x.toInt / g.toInt < 0 := Int.ediv_neg_of_neg_of_pos (by omega) (by omega)
      have hne : ¬ x / g * g = x := by
        intro z
        have e2 := congrArg Int32.toInt z
        rw [fb_mulI (by rw [hq, ht, e]; omega) (by rw [hq, ht, e]; omega), hq, ht] at e2
        exact hd ⟨x.toInt / g.toInt + 1, by rw [Int.mul_comm]; exact e2.symm⟩
      rw [if_neg hne, fb_subI, hq, ht]
      · show x.toInt / g.toInt + 1 - 1 = _
        omega
      · rw [hq, ht]
        show -2147483648 ≤ x.toInt / g.toInt + 1 - 1
        omega
      · rw [hq, ht]
        show x.toInt / g.toInt + 1 - 1 < 2147483648
        omega
/-- from ends that have passed each other nothing fits -/
theorem fd_gap {lo hi g : Int32} (hg : 1 ≤ g.toInt) (hlo : -2000 ≤ lo.toInt) (h : hi < lo) : ¬ (-(jfd (-lo) g) ≤ jfd hi g) := by
  have hr := fb_rng lo
  rw [i_lt] at h
  have hneg : (-lo).toInt = -lo.toInt := fb_negI (by omega)
  have e1 : (jfd (-lo) g).toInt = (-lo.toInt) / g.toInt := by rw [jfd_toInt hg, hneg]
  have e2 := jfd_toInt (x := hi) hg
  have h1 := Int.ediv_mul_le (-lo.toInt) (b := g.toInt) (by omega)
  have h2 := Int.ediv_mul_le hi.toInt (b := g.toInt) (by omega)
  have h3 : -2147483647 ≤ (-lo.toInt) / g.toInt := by
    apply Int.le_ediv_of_mul_le (by omega)
    have := Int.mul_le_mul_of_nonpos_left (a := -2147483647) (b := g.toInt) (c := 1) (by omega) (by omega)
    omega
  have e3 : (-(jfd (-lo) g)).toInt = -((-lo.toInt) / g.toInt) := by
    rw [fb_negI (by rw [e1]; omega), e1]
  rw [i_le, e3, e2]
  intro hle
  have h4 : 0 ≤ (hi.toInt / g.toInt + (-lo.toInt) / g.toInt) * g.toInt := Int.mul_nonneg (by omega) (by omega)
  rw [Int.add_mul] at h4
  omega
theorem mt_ofJ {G : g_G} {y : MethodName} {cc : ByteArray} {maxL d : Nat} {ret : Option FieldType} {av : List Value} {M : g_M} {L : g_L} {Qr : Option Value → g_M → g_L → Prop} {own : String} (hy : plainFor y = true) (hown : y.cls = own) (hn : (lg_sl av).length ≤ maxL) (lv : List (Nat × Value)) (hlv : lv_args 0 av = lv) (body : ∀ X : g_X, X.1 = G → Cx X cc maxL own ret d → Rx X Qr → wx X M L 0 lv []) : mt G y (.code y cc maxL ret) d av M L Qr := by
  intro l
  refine va_MetF (cc := cc) (maxL := maxL) (ret := ret) hy rfl ?_
  intro p e s m args below meth c s₁ B hml hv
  obtain ⟨rfl, hH, hK⟩ := hv
  have hts := atoms_spec (ws := Cond.code y cc maxL ret :: g_tb) B.pre
  have hl := lv_entry av (n := maxL) hn
  rw [lg_entry_eq]
  rw [hlv] at hl
  exact body (G, p, l, e, rm d, s, m, av.toArray, below, meth, c, 0, 0, MQ below (g_Qc G Qr) av.toArray s 0 0 (g_A G), maxL) rfl ⟨B.exec, B.bytes, hml, rfl, by rw [← hown]; exact findClass_of_methodNamed B.named, fun w hw => hts w (List.mem_cons_of_mem _ hw), hK, B.returns, B.notSynchronized, ⟨Nat.le_refl _, Nat.le_refl _⟩, Nat.le_refl _, Nat.le_refl _⟩ rfl s.heap [] _ hH va_S.rf hl
theorem mt_mono {G : g_G} {y : MethodName} {cd : Cond} {d : Nat} {av : List Value} {M : g_M} {L : g_L} {Qr Qr2 : Option Value → g_M → g_L → Prop} (h : mt G y cd d av M L Qr) (hq : ∀ r M1 L1, Qr r M1 L1 → Qr2 r M1 L1) : mt G y cd d av M L Qr2 := by
  intro l p e ha hc hk s m args below hf happ hP hK
  obtain ⟨n, o, h1, h2, h3, ⟨⟨⟨r, M1, L1, e1, e2, e3⟩, hF⟩, hL⟩⟩ := h l p e ha hc hk s m args below hf happ hP hK
  exact ⟨n, o, h1, h2, h3, ⟨⟨r, M1, L1, e1, hq _ _ _ e2, e3⟩, hF⟩, hL⟩
set_option maxHeartbeats 4000000 in
set_option maxRecDepth 100000 in
theorem t_J9_floorDiv_7cf53 (G : g_G) (M : g_M) (L : g_L) (x y : Int32) (hy : ¬ y = 0) : mt G yJ9_floorDiv_7cf53 (Cond.code yJ9_floorDiv_7cf53 cJ9_floorDiv_7cf53 3 (some .int)) 0 [.int x, .int y] M L (qI fun v M' L' => v = jfd x y ∧ M = M' ∧ L = L') := by
  refine mt_ofJ (by decide +kernel) rfl (Nat.le_of_ble_eq_true rfl) [(0, .int x), (1, .int y)] rfl (fun X hG C hQ => ?_)
  subst hG
  refine wx_iload_n C 0 dJ9_floorDiv_7cf53_0 rfl rfl ?_
  refine wx_iload_n C 1 dJ9_floorDiv_7cf53_1 rfl rfl ?_
  refine wx_idiv C dJ9_floorDiv_7cf53_2 hy ?_
  refine wx_istore_n C [1, 2, 0] [(0, .int x), (1, .int y), (2, .int (x / y))] dJ9_floorDiv_7cf53_3 rfl (by decide) rfl ?_
  refine wx_iload_n C 0 dJ9_floorDiv_7cf53_4 rfl rfl ?_
  refine wx_iload_n C 1 dJ9_floorDiv_7cf53_5 rfl rfl ?_
  refine wx_ixor C dJ9_floorDiv_7cf53_6 ?_
  refine wx_if_ge C 21 dJ9_floorDiv_7cf53_7 (by decide) (fun c7 => ?_) (fun c7 => ?_)
  · refine wx_iload_n C 2 dJ9_floorDiv_7cf53_21 rfl rfl ?_
    refine wx_iret C hQ dJ9_floorDiv_7cf53_22 ?_
    refine ⟨_, rfl, ?_, rfl, rfl⟩
    unfold jfd
    first
    | rw [if_pos c7]
    | rw [if_neg c7, if_pos c14]
  · refine wx_iload_n C 2 dJ9_floorDiv_7cf53_10 rfl rfl ?_
    refine wx_iload_n C 1 dJ9_floorDiv_7cf53_11 rfl rfl ?_
    refine wx_imul C dJ9_floorDiv_7cf53_12 ?_
    refine wx_iload_n C 0 dJ9_floorDiv_7cf53_13 rfl rfl ?_
    refine wx_icmp_eq C 21 dJ9_floorDiv_7cf53_14 (by decide) (fun c14 => ?_) (fun c14 => ?_)
    · refine wx_iload_n C 2 dJ9_floorDiv_7cf53_21 rfl rfl ?_
      refine wx_iret C hQ dJ9_floorDiv_7cf53_22 ?_
      refine ⟨_, rfl, ?_, rfl, rfl⟩
      unfold jfd
      first
      | rw [if_pos c7]
      | rw [if_neg c7, if_pos c14]
    · refine wx_iload_n C 2 dJ9_floorDiv_7cf53_17 rfl rfl ?_
      refine wx_iconst C 1 dJ9_floorDiv_7cf53_18 (by decide) ?_
      refine wx_isub C dJ9_floorDiv_7cf53_19 ?_
      refine wx_iret C hQ dJ9_floorDiv_7cf53_20 ?_
      exact ⟨_, rfl, by unfold jfd; rw [if_neg c7, if_neg c14], rfl, rfl⟩
