/-! ===== the law's loop ===== -/
theorem sw_out24 {y : Int32} (h : ¬ (y = 0 ∨ y = 1 ∨ y = 2 ∨ y = 3 ∨ y = 4 ∨ y = 5 ∨ y = 6 ∨ y = 7 ∨ y = 8 ∨ y = 9 ∨ y = 10 ∨ y = 11 ∨ y = 12 ∨ y = 13 ∨ y = 14 ∨ y = 15 ∨ y = 16 ∨ y = 17 ∨ y = 18 ∨ y = 19 ∨ y = 20 ∨ y = 21 ∨ y = 22 ∨ y = 23)) : y.toInt < 0 ∨ 23 < y.toInt := by
  have h0 := sw_ne (x := y) (n := 0) (by decide) (fun e => h (Or.inl e))
  have h1 := sw_ne (x := y) (n := 1) (by decide) (fun e => h (Or.inr (Or.inl e)))
  have h2 := sw_ne (x := y) (n := 2) (by decide) (fun e => h (Or.inr (Or.inr (Or.inl e))))
  have h3 := sw_ne (x := y) (n := 3) (by decide) (fun e => h (Or.inr (Or.inr (Or.inr (Or.inl e)))))
  have h4 := sw_ne (x := y) (n := 4) (by decide) (fun e => h (Or.inr (Or.inr (Or.inr (Or.inr (Or.inl e))))))
  have h5 := sw_ne (x := y) (n := 5) (by decide) (fun e => h (Or.inr (Or.inr (Or.inr (Or.inr (Or.inr (Or.inl e)))))))
  have h6 := sw_ne (x := y) (n := 6) (by decide) (fun e => h (Or.inr (Or.inr (Or.inr (Or.inr (Or.inr (Or.inr (Or.inl e))))))))
  have h7 := sw_ne (x := y) (n := 7) (by decide) (fun e => h (Or.inr (Or.inr (Or.inr (Or.inr (Or.inr (Or.inr (Or.inr (Or.inl e)))))))))
  have h8 := sw_ne (x := y) (n := 8) (by decide) (fun e => h (Or.inr (Or.inr (Or.inr (Or.inr (Or.inr (Or.inr (Or.inr (Or.inr (Or.inl e))))))))))
  have h9 := sw_ne (x := y) (n := 9) (by decide) (fun e => h (Or.inr (Or.inr (Or.inr (Or.inr (Or.inr (Or.inr (Or.inr (Or.inr (Or.inr (Or.inl e)))))))))))
  have h10 := sw_ne (x := y) (n := 10) (by decide) (fun e => h (Or.inr (Or.inr (Or.inr (Or.inr (Or.inr (Or.inr (Or.inr (Or.inr (Or.inr (Or.inr (Or.inl e))))))))))))
  have h11 := sw_ne (x := y) (n := 11) (by decide) (fun e => h (Or.inr (Or.inr (Or.inr (Or.inr (Or.inr (Or.inr (Or.inr (Or.inr (Or.inr (Or.inr (Or.inr (Or.inl e)))))))))))))
  have h12 := sw_ne (x := y) (n := 12) (by decide) (fun e => h (Or.inr (Or.inr (Or.inr (Or.inr (Or.inr (Or.inr (Or.inr (Or.inr (Or.inr (Or.inr (Or.inr (Or.inr (Or.inl e))))))))))))))
  have h13 := sw_ne (x := y) (n := 13) (by decide) (fun e => h (Or.inr (Or.inr (Or.inr (Or.inr (Or.inr (Or.inr (Or.inr (Or.inr (Or.inr (Or.inr (Or.inr (Or.inr (Or.inr (Or.inl e)))))))))))))))
  have h14 := sw_ne (x := y) (n := 14) (by decide) (fun e => h (Or.inr (Or.inr (Or.inr (Or.inr (Or.inr (Or.inr (Or.inr (Or.inr (Or.inr (Or.inr (Or.inr (Or.inr (Or.inr (Or.inr (Or.inl e))))))))))))))))
  have h15 := sw_ne (x := y) (n := 15) (by decide) (fun e => h (Or.inr (Or.inr (Or.inr (Or.inr (Or.inr (Or.inr (Or.inr (Or.inr (Or.inr (Or.inr (Or.inr (Or.inr (Or.inr (Or.inr (Or.inr (Or.inl e)))))))))))))))))
  have h16 := sw_ne (x := y) (n := 16) (by decide) (fun e => h (Or.inr (Or.inr (Or.inr (Or.inr (Or.inr (Or.inr (Or.inr (Or.inr (Or.inr (Or.inr (Or.inr (Or.inr (Or.inr (Or.inr (Or.inr (Or.inr (Or.inl e))))))))))))))))))
  have h17 := sw_ne (x := y) (n := 17) (by decide) (fun e => h (Or.inr (Or.inr (Or.inr (Or.inr (Or.inr (Or.inr (Or.inr (Or.inr (Or.inr (Or.inr (Or.inr (Or.inr (Or.inr (Or.inr (Or.inr (Or.inr (Or.inr (Or.inl e)))))))))))))))))))
  have h18 := sw_ne (x := y) (n := 18) (by decide) (fun e => h (Or.inr (Or.inr (Or.inr (Or.inr (Or.inr (Or.inr (Or.inr (Or.inr (Or.inr (Or.inr (Or.inr (Or.inr (Or.inr (Or.inr (Or.inr (Or.inr (Or.inr (Or.inr (Or.inl e))))))))))))))))))))
  have h19 := sw_ne (x := y) (n := 19) (by decide) (fun e => h (Or.inr (Or.inr (Or.inr (Or.inr (Or.inr (Or.inr (Or.inr (Or.inr (Or.inr (Or.inr (Or.inr (Or.inr (Or.inr (Or.inr (Or.inr (Or.inr (Or.inr (Or.inr (Or.inr (Or.inl e)))))))))))))))))))))
  have h20 := sw_ne (x := y) (n := 20) (by decide) (fun e => h (Or.inr (Or.inr (Or.inr (Or.inr (Or.inr (Or.inr (Or.inr (Or.inr (Or.inr (Or.inr (Or.inr (Or.inr (Or.inr (Or.inr (Or.inr (Or.inr (Or.inr (Or.inr (Or.inr (Or.inr (Or.inl e))))))))))))))))))))))
  have h21 := sw_ne (x := y) (n := 21) (by decide) (fun e => h (Or.inr (Or.inr (Or.inr (Or.inr (Or.inr (Or.inr (Or.inr (Or.inr (Or.inr (Or.inr (Or.inr (Or.inr (Or.inr (Or.inr (Or.inr (Or.inr (Or.inr (Or.inr (Or.inr (Or.inr (Or.inr (Or.inl e)))))))))))))))))))))))
  have h22 := sw_ne (x := y) (n := 22) (by decide) (fun e => h (Or.inr (Or.inr (Or.inr (Or.inr (Or.inr (Or.inr (Or.inr (Or.inr (Or.inr (Or.inr (Or.inr (Or.inr (Or.inr (Or.inr (Or.inr (Or.inr (Or.inr (Or.inr (Or.inr (Or.inr (Or.inr (Or.inr (Or.inl e))))))))))))))))))))))))
  have h23 := sw_ne (x := y) (n := 23) (by decide) (fun e => h (Or.inr (Or.inr (Or.inr (Or.inr (Or.inr (Or.inr (Or.inr (Or.inr (Or.inr (Or.inr (Or.inr (Or.inr (Or.inr (Or.inr (Or.inr (Or.inr (Or.inr (Or.inr (Or.inr (Or.inr (Or.inr (Or.inr (Or.inr (e)))))))))))))))))))))))))
  omega
set_option maxHeartbeats 4000000 in
set_option maxRecDepth 100000 in
theorem law_loop {X : g_X} {b Ls : Nat} {xs0 : Nat → Int32} (C : Cx X cL_law 4 RL (some .boolean) 8) (Z : lwZ X b Ls xs0) (hE : ∀ M L lv, wx X M L 906 lv []) : ∀ (n q : Nat), q ≤ Ls → Ls < q + n → ∀ (M : g_M) (L : g_L), IvX M → wx X M L 18 [(0, .ref b), (1, .ref (X.1.1 + 0)), (2, .ref (X.1.1 + 149)), (3, .int (nI q))] [] := by
  have hLs := Z.2.2.2
  intro n
  induction n with
  | zero =>
    intro q h1 h2
    exact absurd h2 (by omega)
  | succ n ih =>
    intro q hq0 hqn M L hI
    refine wx_iload_n C 3 dL_law_18 rfl rfl ?_
    refine wx_aload_n C 0 dL_law_19 rfl rfl ?_
    refine wx_slen C Z dL_law_20 ?_
    refine wx_iconst C 5 dL_law_21 (by decide) ?_
    refine wx_isub C dL_law_22 ?_
    refine wx_icmp_gt C 906 dL_law_23 (by decide) (fun _ => hE _ _ _) (fun c23 => ?_)
    have hq : q + 5 ≤ Ls := by
      have e1 : (nI Ls).toInt = Ls := nI_toInt (by omega)
      have e2 : (nI q).toInt = q := nI_toInt (by omega)
      have e3 : (nI Ls - 5).toInt = (nI Ls).toInt - 5 := fb_subI (y := 5) (by rw [e1]; show _ ≤ (Ls : Int) - 5; omega) (by rw [e1]; show (Ls : Int) - 5 < _; omega)
      rw [i_lt, e3, e1, e2] at c23
      omega
    have K : ∀ (M2 : g_M) (L2 : g_L), IvX M2 → wx X M2 L2 900 [(0, .ref b), (1, .ref (X.1.1 + 0)), (2, .ref (X.1.1 + 149)), (3, .int (nI q))] [] := by
      intro M2 L2 hI2
      refine wx_iinc C (v := (nI (q + 5))) 3 [1, 2, 3, 0] [(0, .ref b), (1, .ref (X.1.1 + 0)), (2, .ref (X.1.1 + 149)), (3, .int (nI (q + 5)))] dL_law_900 rfl (nI_add q 5) (by decide) rfl ?_
      refine wx_goto C 18 dL_law_903 (by decide) ?_
      exact ih (q + 5) (by omega) (by omega) M2 L2 hI2
    refine wx_aload_n C 0 dL_law_26 rfl rfl ?_
    refine wx_iload_n C 3 dL_law_27 rfl rfl ?_
    refine wx_sld C Z q dL_law_28 rfl (by omega) ?_
    refine wx_bipush C 31 dL_law_29 (by decide) ?_
    refine wx_iand C dL_law_31 ?_
    refine wx_nmi (fun y _ => ?_)
    by_cases hs : y = 0 ∨ y = 1 ∨ y = 2 ∨ y = 3 ∨ y = 4 ∨ y = 5 ∨ y = 6 ∨ y = 7 ∨ y = 8 ∨ y = 9 ∨ y = 10 ∨ y = 11 ∨ y = 12 ∨ y = 13 ∨ y = 14 ∨ y = 15 ∨ y = 16 ∨ y = 17 ∨ y = 18 ∨ y = 19 ∨ y = 20 ∨ y = 21 ∨ y = 22 ∨ y = 23
    · rcases hs with hs | hs | hs | hs | hs | hs | hs | hs | hs | hs | hs | hs | hs | hs | hs | hs | hs | hs | hs | hs | hs | hs | hs | hs
      · refine wx_tin C 144 dL_law_32 (by rw [hs]; decide) (by rw [hs]; decide) (by rw [hs]; rfl) (by decide) ?_
        exact lw_dot C Z hI hq K
      · refine wx_tin C 197 dL_law_32 (by rw [hs]; decide) (by rw [hs]; decide) (by rw [hs]; rfl) (by decide) ?_
        exact lw_pace C Z hI hq K
      · refine wx_tin C 220 dL_law_32 (by rw [hs]; decide) (by rw [hs]; decide) (by rw [hs]; rfl) (by decide) ?_
        exact lw_net C Z hI hq K
      · refine wx_tin C 253 dL_law_32 (by rw [hs]; decide) (by rw [hs]; decide) (by rw [hs]; rfl) (by decide) ?_
        exact lw_about C Z hI hq K
      · refine wx_tin C 286 dL_law_32 (by rw [hs]; decide) (by rw [hs]; decide) (by rw [hs]; rfl) (by decide) ?_
        exact lw_bits C Z hI hq K
      · refine wx_tin C 299 dL_law_32 (by rw [hs]; decide) (by rw [hs]; decide) (by rw [hs]; rfl) (by decide) ?_
        exact lw_bit C Z hI hq K
      · refine wx_tin C 332 dL_law_32 (by rw [hs]; decide) (by rw [hs]; decide) (by rw [hs]; rfl) (by decide) ?_
        exact lw_pairs C Z hI hq K
      · refine wx_tin C 345 dL_law_32 (by rw [hs]; decide) (by rw [hs]; decide) (by rw [hs]; rfl) (by decide) ?_
        exact lw_pair C Z hI hq K
      · refine wx_tin C 378 dL_law_32 (by rw [hs]; decide) (by rw [hs]; decide) (by rw [hs]; rfl) (by decide) ?_
        exact lw_start C Z hI hq K
      · refine wx_tin C 411 dL_law_32 (by rw [hs]; decide) (by rw [hs]; decide) (by rw [hs]; rfl) (by decide) ?_
        exact lw_single C Z hI hq K
      · refine wx_tin C 444 dL_law_32 (by rw [hs]; decide) (by rw [hs]; decide) (by rw [hs]; rfl) (by decide) ?_
        exact lw_join C Z hI hq K
      · refine wx_tin C 477 dL_law_32 (by rw [hs]; decide) (by rw [hs]; decide) (by rw [hs]; rfl) (by decide) ?_
        exact lw_joinBit C Z hI hq K
      · refine wx_tin C 510 dL_law_32 (by rw [hs]; decide) (by rw [hs]; decide) (by rw [hs]; rfl) (by decide) ?_
        exact lw_force C Z hI hq K
      · refine wx_tin C 543 dL_law_32 (by rw [hs]; decide) (by rw [hs]; decide) (by rw [hs]; rfl) (by decide) ?_
        exact lw_path C Z hI hq K
      · refine wx_tin C 576 dL_law_32 (by rw [hs]; decide) (by rw [hs]; decide) (by rw [hs]; rfl) (by decide) ?_
        exact lw_heap C Z hI hq K
      · refine wx_tin C 600 dL_law_32 (by rw [hs]; decide) (by rw [hs]; decide) (by rw [hs]; rfl) (by decide) ?_
        exact lw_ahead C Z hI hq K
      · refine wx_tin C 644 dL_law_32 (by rw [hs]; decide) (by rw [hs]; decide) (by rw [hs]; rfl) (by decide) ?_
        exact lw_tellOff C Z hI hq K
      · refine wx_tin C 667 dL_law_32 (by rw [hs]; decide) (by rw [hs]; decide) (by rw [hs]; rfl) (by decide) ?_
        exact lw_fit C Z hI hq K
      · refine wx_tin C 721 dL_law_32 (by rw [hs]; decide) (by rw [hs]; decide) (by rw [hs]; rfl) (by decide) ?_
        exact lw_miss C Z hI hq K
      · refine wx_tin C 775 dL_law_32 (by rw [hs]; decide) (by rw [hs]; decide) (by rw [hs]; rfl) (by decide) ?_
        exact lw_part C Z hI hq K
      · refine wx_tin C 798 dL_law_32 (by rw [hs]; decide) (by rw [hs]; decide) (by rw [hs]; rfl) (by decide) ?_
        exact lw_same C Z hI hq K
      · refine wx_tin C 831 dL_law_32 (by rw [hs]; decide) (by rw [hs]; decide) (by rw [hs]; rfl) (by decide) ?_
        exact lw_merge C Z hI hq K
      · refine wx_tin C 864 dL_law_32 (by rw [hs]; decide) (by rw [hs]; decide) (by rw [hs]; rfl) (by decide) ?_
        exact lw_undo C Z hI hq K
      · refine wx_tin C 877 dL_law_32 (by rw [hs]; decide) (by rw [hs]; decide) (by rw [hs]; rfl) (by decide) ?_
        exact lw_count C Z hI hq K
    · refine wx_tout C 900 dL_law_32 (sw_out24 hs) (by decide) ?_
      exact K M L hI
/-! at first -/
def c00 : pS := (fun _ => false, fun _ => 0, fun _ _ => 0)
theorem Iv_0 : Iv M0 0 0 0 0 0 c00 (fun _ => (0, 0, fun _ => 0, false, none)) (fun _ => c00) (fun _ => 0) := by
  have z : ∀ a b, a ≠ 7 → a ≠ 8 → a ≠ 149 → M0 a b = 0 := fun a b h1 h2 h3 => by rw [M0_z h1 h2 h3]
  refine ⟨⟨z 1 5 (by decide) (by decide) (by decide), by decide, z 16 2 (by decide) (by decide) (by decide), by decide, fun p hp => ⟨⟨rw_w hp, z _ 1 (by omega) (by omega) (by omega), by show 0 ≤ 16; decide, fun i hi => absurd hi (Nat.not_lt_zero i)⟩, by show 0 ≤ 8; decide⟩, fun _ _ _ => rfl, by decide, ⟨z 54 1 (by decide) (by decide) (by decide), by decide, z 54 2 (by decide) (by decide) (by decide), by decide⟩, Or.inl (z 9 10 (by decide) (by decide) (by decide))⟩, ⟨⟨rfl, rfl, rfl, rfl, by decide⟩, ⟨rfl, rfl, rfl⟩, ⟨rfl, rfl, rfl, rfl, rfl⟩, fun d hd => absurd hd (Nat.not_lt_zero d), fun p hp => ?_, fun p hp => ?_⟩, ⟨fun p h => Bool.noConfusion h, fun p _ => ⟨by show 0 ≤ 8; decide, fun i hi => absurd hi (Nat.not_lt_zero i)⟩, fun _ _ _ => rfl, fun p q i j h => Bool.noConfusion h⟩, fun d hd => absurd hd (Nat.not_lt_zero d), rfl, fun i hi => absurd hi (Nat.not_lt_zero i)⟩
  · have eg : goF c00 0 p = false := by
      unfold goF
      simp
    rw [eg, z 155 p (by decide) (by decide) (by decide), z (18 + 3 * p) 0 (by omega) (by omega) (by omega), z (18 + 3 * p) 1 (by omega) (by omega) (by omega), z 158 p (by decide) (by decide) (by decide)]
    exact ⟨rfl, rfl, rfl⟩
  · have es : szF c00 p = 0 := rfl
    rw [es, z 156 p (by decide) (by decide) (by decide)]
    exact ⟨rfl, fun i hi => absurd hi (Nat.not_lt_zero i)⟩
theorem IvX_0 : IvX M0 := ⟨_, _, _, _, _, _, _, _, _, Iv_0⟩
