/-! ===== NightDots: pair, start, single, join, joinBit, force ===== -/
/-- what the class' memory is, as far as its calls need it: n dots, e paths ever, rows of lengths ln and dots rf, the ring at nx with kp acts -/
def cI (M : g_M) (n e nx kp : Nat) (ln : Nat → Nat) (rf : Nat → Nat → Nat) : Prop := M 1 5 = nI n ∧ n ≤ 60 ∧ M 16 2 = nI e ∧ e ≤ 12 ∧ (∀ p, p < 12 → rok M (19 + 3 * p) (ln p) (rf p) ∧ ln p ≤ 8) ∧ (∀ p, e ≤ p → p < 12 → ln p = 0) ∧ 1 ≤ (M 7 1).toInt ∧ acO M nx kp ∧ (M 9 10 = 0 ∨ (M 9 10 = 1 ∧ chR M n))
theorem cI.n {M : g_M} {n e nx kp : Nat} {ln : Nat → Nat} {rf : Nat → Nat → Nat} (h : cI M n e nx kp ln rf) : M 1 5 = nI n ∧ n ≤ 60 := ⟨h.1, h.2.1⟩
theorem cI.e {M : g_M} {n e nx kp : Nat} {ln : Nat → Nat} {rf : Nat → Nat → Nat} (h : cI M n e nx kp ln rf) : M 16 2 = nI e ∧ e ≤ 12 := ⟨h.2.2.1, h.2.2.2.1⟩
theorem cI.r {M : g_M} {n e nx kp : Nat} {ln : Nat → Nat} {rf : Nat → Nat → Nat} (h : cI M n e nx kp ln rf) {p : Nat} (hp : p < 12) : rok M (19 + 3 * p) (ln p) (rf p) ∧ ln p ≤ 8 := h.2.2.2.2.1 p hp
theorem cI.z {M : g_M} {n e nx kp : Nat} {ln : Nat → Nat} {rf : Nat → Nat → Nat} (h : cI M n e nx kp ln rf) {p : Nat} (hp : e ≤ p) (h2 : p < 12) : ln p = 0 := h.2.2.2.2.2.1 p hp h2
theorem cI.g {M : g_M} {n e nx kp : Nat} {ln : Nat → Nat} {rf : Nat → Nat → Nat} (h : cI M n e nx kp ln rf) : 1 ≤ (M 7 1).toInt := h.2.2.2.2.2.2.1
theorem cI.a {M : g_M} {n e nx kp : Nat} {ln : Nat → Nat} {rf : Nat → Nat → Nat} (h : cI M n e nx kp ln rf) : acO M nx kp := h.2.2.2.2.2.2.2.1
theorem cI.k {M : g_M} {n e nx kp : Nat} {ln : Nat → Nat} {rf : Nat → Nat → Nat} (h : cI M n e nx kp ln rf) : M 9 10 = 0 ∨ (M 9 10 = 1 ∧ chR M n) := h.2.2.2.2.2.2.2.2
def plE (M : g_M) (n : Nat) : List (Nat × Nat) := if 40 < (bl (cB M) n n).length then [] else PLst M n
def totV (M : g_M) (n : Nat) : Int32 := if 40 < (bl (cB M) n n).length then -1 else nI (PLst M n).length
theorem PLst_le (M : g_M) {n : Nat} (h : (bl (cB M) n n).length ≤ 40) : (PLst M n).length ≤ 780 := Nat.le_trans (bl_tri (fun x y => prG_lt x y) _ _) (tri_780 _ (by omega))
theorem tot_in {M : g_M} {n : Nat} {x : Int32} (h : inW x 0 (totV M n - 1) = true) : ∃ q e, q < 780 ∧ x = nI q ∧ (plE M n)[q]? = some e ∧ (bl (cB M) n n).length ≤ 40 := by
  unfold inW totV at h
  rw [decide_eq_true_eq] at h
  by_cases hb : 40 < (bl (cB M) n n).length
  · rw [if_pos hb] at h
    have h1 := h.1
    have h2 := h.2
    rw [i_le] at h1 h2
    rw [show (0 : Int32).toInt = 0 from rfl] at h1
    rw [show ((-1 : Int32) - 1).toInt = -2 from rfl] at h2
    omega
  · rw [if_neg hb] at h
    have hl := PLst_le M (n := n) (by omega)
    by_cases h0 : (PLst M n).length = 0
    · rw [h0] at h
      have h1 := h.1
      have h2 := h.2
      rw [i_le] at h1 h2
      rw [show (0 : Int32).toInt = 0 from rfl] at h1
      rw [show (nI 0 - 1).toInt = -1 from rfl] at h2
      omega
    · rw [show nI (PLst M n).length - 1 = nI ((PLst M n).length - 1) from pk_sub (b := 1) (by omega)] at h
      obtain ⟨q, hq, rfl⟩ := in_of (n := (PLst M n).length) (by omega) h.1 (by
        have h2 := h.2
        rw [i_le, nI_toInt (by omega)] at h2
        rw [i_lt, nI_toInt (by omega)]
        omega)
      refine ⟨q, (PLst M n).getD q (0, 0), by omega, rfl, ?_, by omega⟩
      unfold plE
      rw [if_neg hb]
      exact getD_some hq
theorem tot_no {M : g_M} {n : Nat} {x : Int32} (h : inW x 0 (totV M n - 1) = false) : getP (plE M n) x = none := by
  unfold inW totV at h
  rw [decide_eq_false_iff_not] at h
  refine getP_no (fun q hq e => ?_)
  subst e
  unfold plE
  by_cases hb : 40 < (bl (cB M) n n).length
  · rw [if_pos hb]; exact Nat.zero_le _
  · rw [if_neg hb] at h ⊢
    have hl := PLst_le M (n := n) (by omega)
    refine Nat.le_of_not_lt (fun hlt => h ⟨nI_pos' hq, ?_⟩)
    rw [show nI (PLst M n).length - 1 = nI ((PLst M n).length - 1) from pk_sub (b := 1) (by omega)]
    exact nI_le (by omega) (by omega)
theorem plE_some {M : g_M} {n q : Nat} {e : Nat × Nat} (h : (plE M n)[q]? = some e) (hle : (bl (cB M) n n).length ≤ 40) : (PLst M n)[q]? = some e ∧ e.1 < (bl (cB M) n n).length ∧ e.2 < (bl (cB M) n n).length := by
  unfold plE at h
  rw [if_neg (by omega)] at h
  exact ⟨h, bl_mem (Nat.le_refl _) e (List.mem_of_getElem? h)⟩
set_option maxHeartbeats 4000000 in
set_option maxRecDepth 100000 in
theorem t_X10_pair (G : g_G) (M : g_M) (L : g_L) (x k : Int32) {n e nx kp : Nat} {ln : Nat → Nat} {rf : Nat → Nat → Nat} (hC : cI M n e nx kp ln rf) : mt G yX10_pair (Cond.code yX10_pair cX10_pair 3 (some .int)) 6 [.ref (G.1 + 0), .int x, .int k] M L (qI fun v M' L' => L = L' ∧ v = prV (plE M n) x k ∧ (M = M' ∨ (fr5 M M' ∧ M' 9 10 = 1 ∧ chR M' n))) := by
  refine mt_of (by decide) rfl (Nat.le_of_ble_eq_true rfl) [(0, .ref (G.1 + 0)), (1, .int x), (2, .int k)] rfl (fun X hG C hQ => ?_)
  subst hG
  refine wx_iload_n C 2 dX10_pair_0 rfl rfl ?_
  refine wx_iconst C 0 dX10_pair_1 (by decide) ?_
  refine wx_iconst C 1 dX10_pair_2 (by decide) ?_
  refine ca_X10_71 C (rest := []) (t_X10_isWithin X.1 M L k 0 1) (by decide) rfl rfl (Nat.le_of_ble_eq_true rfl) dX10_pair_3 (kI fun r3 M3 L3 q3 => ?_)
  obtain ⟨rfl, rfl, rfl⟩ := q3
  refine wx_if_eq C 26 dX10_pair_6 (by decide) (fun c6 => ?_) (fun c6 => ?_)
  · refine wx_iconst C (-1) dX10_pair_26 (by decide) ?_
    refine wx_iret C hQ dX10_pair_27 ?_
    first
    | exact ⟨_, rfl, rfl, by unfold prV; rw [if_neg (by rw [bI_0.mp c6]; decide)], Or.inl rfl⟩
    | exact ⟨_, rfl, rfl, by unfold prV; rw [if_pos (bI_n0.mp c6), tot_no (bI_0.mp c23)], Or.inr ⟨h5, h10, hc⟩⟩
  · refine wx_iload_n C 1 dX10_pair_9 rfl rfl ?_
    refine wx_iconst C 0 dX10_pair_10 (by decide) ?_
    refine wx_aload_n C 0 dX10_pair_11 rfl rfl ?_
    refine gf_X10_39 C dX10_pair_12 ?_
    refine ca_X10_136 C (rest := [.int 0, .int x]) (t_X5_total X.1 M L hC.n.1 hC.n.2 hC.g hC.k) (by decide) rfl (by decide) rfl rfl (Nat.le_of_ble_eq_true rfl) dX10_pair_15 (kI fun r15 M15 L15 q15 => ?_)
    obtain ⟨rfl, h5, h10, hc, rfl⟩ := q15
    refine wx_iconst C 1 dX10_pair_18 (by decide) ?_
    refine wx_isub C dX10_pair_19 ?_
    refine ca_X10_71 C (rest := []) (t_X10_isWithin X.1 M15 L x 0 (totV M n - 1)) (by decide) rfl rfl (Nat.le_of_ble_eq_true rfl) dX10_pair_20 (kI fun r20 M20 L20 q20 => ?_)
    obtain ⟨rfl, rfl, rfl⟩ := q20
    refine wx_if_ne C 28 dX10_pair_23 (by decide) (fun c23 => ?_) (fun c23 => ?_)
    · obtain ⟨q, e0, hq, rfl, hqe, hle⟩ := tot_in (bI_n0.mp c23)
      obtain ⟨hqe2, he1, he2⟩ := plE_some hqe hle
      have hpq := (hc.2.2 (by rw [h5.eB]; exact hle)).2 q e0 (by rw [h5.eL]; exact hqe2)
      refine wx_iload_n C 2 dX10_pair_28 rfl rfl ?_
      refine wx_if_ne C 44 dX10_pair_29 (by decide) (fun c29 => ?_) (fun c29 => ?_)
      · refine wx_aload_n C 0 dX10_pair_44 rfl rfl ?_
        refine gf_X10_39 C dX10_pair_45 ?_
        refine gf_X10_140 C dX10_pair_48 ?_
        refine wx_iload_n C 1 dX10_pair_51 rfl rfl ?_
        refine wx_iald C 11 q (by decide) (fun _ _ => rfl) (by decide) dX10_pair_52 rfl hq ?_
        refine wx_iret C hQ dX10_pair_53 ?_
        refine ⟨_, rfl, rfl, ?_, Or.inr ⟨h5, h10, hc⟩⟩
        unfold prV
        rw [if_pos (bI_n0.mp c6), getP_n (by omega), hqe]
        first
        | (show _ = if k = 0 then _ else _; rw [if_pos c29]; exact hpq.1)
        | (show _ = if k = 0 then _ else _; rw [if_neg c29]; exact hpq.2)
      · refine wx_aload_n C 0 dX10_pair_32 rfl rfl ?_
        refine gf_X10_39 C dX10_pair_33 ?_
        refine gf_X10_137 C dX10_pair_36 ?_
        refine wx_iload_n C 1 dX10_pair_39 rfl rfl ?_
        refine wx_iald C 10 q (by decide) (fun _ _ => rfl) (by decide) dX10_pair_40 rfl hq ?_
        refine wx_goto C 53 dX10_pair_41 (by decide) ?_
        refine wx_iret C hQ dX10_pair_53 ?_
        refine ⟨_, rfl, rfl, ?_, Or.inr ⟨h5, h10, hc⟩⟩
        unfold prV
        rw [if_pos (bI_n0.mp c6), getP_n (by omega), hqe]
        first
        | (show _ = if k = 0 then _ else _; rw [if_pos c29]; exact hpq.1)
        | (show _ = if k = 0 then _ else _; rw [if_neg c29]; exact hpq.2)
    · refine wx_iconst C (-1) dX10_pair_26 (by decide) ?_
      refine wx_iret C hQ dX10_pair_27 ?_
      first
      | exact ⟨_, rfl, rfl, by unfold prV; rw [if_neg (by rw [bI_0.mp c6]; decide)], Or.inl rfl⟩
      | exact ⟨_, rfl, rfl, by unfold prV; rw [if_pos (bI_n0.mp c6), tot_no (bI_0.mp c23)], Or.inr ⟨h5, h10, hc⟩⟩

