/-! ===== the reference: path, heap, ahead, tellOff, count ===== -/
def mpV (nm go : Int32) (l : Nat) (f : Nat → Int32) (s : Bool) (k : Int32) : Int32 := if k = 0 then nm else if k = 1 then nI l else if k = 2 then (if go = 0 then bI s else 0) else if k = 3 then (if go = 0 then 0 else 1) else dotW f l k
theorem i_9_10 {x : Int32} : ¬ x ≤ 9 ↔ 10 ≤ x := by
  rw [i_le, i_le, show (9 : Int32).toInt = 9 from rfl, show (10 : Int32).toInt = 10 from rfl]
  omega
set_option maxHeartbeats 4000000 in
set_option maxRecDepth 100000 in
theorem t_X11_path (G : g_G) (M : g_M) (L : g_L) (x k : Int32) {n e fa ac : Nat} {sz : Nat → Nat} {rr : Nat → Nat → Nat} {go : Nat → Bool} (hM : mI M n e fa ac sz rr go) : mt G yX11_path (Cond.code yX11_path cX11_path 3 (some .int)) 5 [.ref (G.1 + 149), .int x, .int k] M L (qI fun v M' L' => L = L' ∧ ((dHas e x = false ∧ v = -1 ∧ frM M M') ∨ ∃ p, p < e ∧ x = nI p ∧ frM M M' ∧ v = mpV (M 155 p) (M 158 p) (sz p) (fun i => M 157 (8 * p + i)) (msnd M (rr p) (sz p)) k)) := by
  refine mt_of (by decide) rfl (Nat.le_of_ble_eq_true rfl) [(0, .ref (G.1 + 149)), (1, .int x), (2, .int k)] rfl (fun X hG C hQ => ?_)
  subst hG
  refine wx_iload_n C 1 dX11_path_0 rfl rfl ?_
  refine wx_iconst C 0 dX11_path_1 (by decide) ?_
  refine wx_aload_n C 0 dX11_path_2 rfl rfl ?_
  refine gf_X11_82 C dX11_path_3 ?_
  refine wx_iconst C 1 dX11_path_6 (by decide) ?_
  refine wx_isub C dX11_path_7 ?_
  refine ca_X11_78 C (rest := []) (t_X11_isIn X.1 M L x 0 (M 149 1 - 1)) (by decide) rfl rfl (Nat.le_of_ble_eq_true rfl) dX11_path_8 (kI fun r8 M8 L8 q8 => ?_)
  obtain ⟨rfl, rfl, rfl⟩ := q8
  refine wx_if_ne C 16 dX11_path_11 (by decide) (fun c11 => ?_) (fun c11 => ?_)
  · have h12 := hM.e12
    have hin := bI_n0.mp c11
    rw [hM.he, inW_p (by omega)] at hin
    obtain ⟨p, hp, rfl⟩ := dHas_t (by omega) hin
    have hp12 : p < 12 := by omega
    have hr := hM.r hp12
    have h8a := hr.2.1
    refine wx_iload_n C 2 dX11_path_16 rfl rfl ?_
    by_cases s17 : k = 0 ∨ k = 1 ∨ k = 2 ∨ k = 3
    · rcases s17 with s17 | s17 | s17 | s17
      · refine wx_tin C 48 dX11_path_17 (by rw [s17]; decide) (by rw [s17]; decide) (by rw [s17]; rfl) (by decide) ?_
        refine wx_aload_n C 0 dX11_path_48 rfl rfl ?_
        refine gf_X11_35 C dX11_path_49 ?_
        refine wx_iload_n C 1 dX11_path_52 rfl rfl ?_
        refine wx_iald C 155 p (by decide) (fun _ _ => rfl) (by decide) dX11_path_53 rfl (by omega) ?_
        refine wx_iret C hQ dX11_path_54 ?_
        refine ⟨_, rfl, rfl, Or.inr ⟨p, hp, rfl, frM.rf M, ?_⟩⟩
        unfold mpV
        first
        | (rw [if_pos s17]; done)
        | (rw [s17, if_neg (by decide), if_pos rfl]; exact hr.1)
        | (rw [s17, if_neg (by decide), if_neg (by decide), if_pos rfl]; first | rw [if_neg c68] | (rw [if_pos c68, bI_0.mp c76]; rfl) | (rw [if_pos c68, bI_n0.mp c76]; rfl))
        | (rw [s17, if_neg (by decide), if_neg (by decide), if_neg (by decide), if_pos rfl]; first | rw [if_pos c91] | rw [if_neg c91])
        | (rw [if_neg (fun z => s17 (Or.inl z)), if_neg (fun z => s17 (Or.inr (Or.inl z))), if_neg (fun z => s17 (Or.inr (Or.inr (Or.inl z)))), if_neg (fun z => s17 (Or.inr (Or.inr (Or.inr z))))]
           unfold dotW
           first
           | (rw [if_neg (fun z => absurd c103 (i_9_10.mpr z.1))]; done)
           | (rw [hr.1] at c116; rw [if_neg (fun z => absurd c116 (Int32.not_le.mpr z.2))]; done)
           | (rw [hr.1] at c116; rw [if_pos ⟨i_9_10.mp c103, Int32.not_le.mp c116⟩, hj2, nI_clamp (by omega)]))
      · refine wx_tin C 55 dX11_path_17 (by rw [s17]; decide) (by rw [s17]; decide) (by rw [s17]; rfl) (by decide) ?_
        refine wx_aload_n C 0 dX11_path_55 rfl rfl ?_
        refine gf_X11_38 C dX11_path_56 ?_
        refine wx_iload_n C 1 dX11_path_59 rfl rfl ?_
        refine wx_iald C 156 p (by decide) (fun _ _ => rfl) (by decide) dX11_path_60 rfl (by omega) ?_
        refine wx_iret C hQ dX11_path_61 ?_
        refine ⟨_, rfl, rfl, Or.inr ⟨p, hp, rfl, frM.rf M, ?_⟩⟩
        unfold mpV
        first
        | (rw [if_pos s17]; done)
        | (rw [s17, if_neg (by decide), if_pos rfl]; exact hr.1)
        | (rw [s17, if_neg (by decide), if_neg (by decide), if_pos rfl]; first | rw [if_neg c68] | (rw [if_pos c68, bI_0.mp c76]; rfl) | (rw [if_pos c68, bI_n0.mp c76]; rfl))
        | (rw [s17, if_neg (by decide), if_neg (by decide), if_neg (by decide), if_pos rfl]; first | rw [if_pos c91] | rw [if_neg c91])
        | (rw [if_neg (fun z => s17 (Or.inl z)), if_neg (fun z => s17 (Or.inr (Or.inl z))), if_neg (fun z => s17 (Or.inr (Or.inr (Or.inl z)))), if_neg (fun z => s17 (Or.inr (Or.inr (Or.inr z))))]
           unfold dotW
           first
           | (rw [if_neg (fun z => absurd c103 (i_9_10.mpr z.1))]; done)
           | (rw [hr.1] at c116; rw [if_neg (fun z => absurd c116 (Int32.not_le.mpr z.2))]; done)
           | (rw [hr.1] at c116; rw [if_pos ⟨i_9_10.mp c103, Int32.not_le.mp c116⟩, hj2, nI_clamp (by omega)]))
      · refine wx_tin C 62 dX11_path_17 (by rw [s17]; decide) (by rw [s17]; decide) (by rw [s17]; rfl) (by decide) ?_
        refine wx_aload_n C 0 dX11_path_62 rfl rfl ?_
        refine gf_X11_44 C dX11_path_63 ?_
        refine wx_iload_n C 1 dX11_path_66 rfl rfl ?_
        refine wx_zald C 158 p (by decide) (fun _ _ => rfl) (by decide) dX11_path_67 rfl (by omega) ?_
        refine wx_if_ne C 83 dX11_path_68 (by decide) (fun c68 => ?_) (fun c68 => ?_)
        · refine wx_iconst C 0 dX11_path_83 (by decide) ?_
          refine wx_iret C hQ dX11_path_84 ?_
          refine ⟨_, rfl, rfl, Or.inr ⟨p, hp, rfl, frM.rf M, ?_⟩⟩
          unfold mpV
          first
          | (rw [if_pos s17]; done)
          | (rw [s17, if_neg (by decide), if_pos rfl]; exact hr.1)
          | (rw [s17, if_neg (by decide), if_neg (by decide), if_pos rfl]; first | rw [if_neg c68] | (rw [if_pos c68, bI_0.mp c76]; rfl) | (rw [if_pos c68, bI_n0.mp c76]; rfl))
          | (rw [s17, if_neg (by decide), if_neg (by decide), if_neg (by decide), if_pos rfl]; first | rw [if_pos c91] | rw [if_neg c91])
          | (rw [if_neg (fun z => s17 (Or.inl z)), if_neg (fun z => s17 (Or.inr (Or.inl z))), if_neg (fun z => s17 (Or.inr (Or.inr (Or.inl z)))), if_neg (fun z => s17 (Or.inr (Or.inr (Or.inr z))))]
             unfold dotW
             first
             | (rw [if_neg (fun z => absurd c103 (i_9_10.mpr z.1))]; done)
             | (rw [hr.1] at c116; rw [if_neg (fun z => absurd c116 (Int32.not_le.mpr z.2))]; done)
             | (rw [hr.1] at c116; rw [if_pos ⟨i_9_10.mp c103, Int32.not_le.mp c116⟩, hj2, nI_clamp (by omega)]))
        · refine wx_aload_n C 0 dX11_path_71 rfl rfl ?_
          refine wx_iload_n C 1 dX11_path_72 rfl rfl ?_
          refine ca_X11_188 C (rest := []) (t_X11_isSound X.1 M L rfl hp12 hr hM.g) (by decide) rfl (by decide) rfl rfl (Nat.le_of_ble_eq_true rfl) dX11_path_73 (kI fun r73 M73 L73 q73 => ?_)
          obtain ⟨rfl, rfl, hfr, hso⟩ := q73
          refine wx_if_eq C 83 dX11_path_76 (by decide) (fun c76 => ?_) (fun c76 => ?_)
          · refine wx_iconst C 0 dX11_path_83 (by decide) ?_
            refine wx_iret C hQ dX11_path_84 ?_
            refine ⟨_, rfl, rfl, Or.inr ⟨p, hp, rfl, hfr, ?_⟩⟩
            unfold mpV
            first
            | (rw [if_pos s17]; done)
            | (rw [s17, if_neg (by decide), if_pos rfl]; exact hr.1)
            | (rw [s17, if_neg (by decide), if_neg (by decide), if_pos rfl]; first | rw [if_neg c68] | (rw [if_pos c68, bI_0.mp c76]; rfl) | (rw [if_pos c68, bI_n0.mp c76]; rfl))
            | (rw [s17, if_neg (by decide), if_neg (by decide), if_neg (by decide), if_pos rfl]; first | rw [if_pos c91] | rw [if_neg c91])
            | (rw [if_neg (fun z => s17 (Or.inl z)), if_neg (fun z => s17 (Or.inr (Or.inl z))), if_neg (fun z => s17 (Or.inr (Or.inr (Or.inl z)))), if_neg (fun z => s17 (Or.inr (Or.inr (Or.inr z))))]
               unfold dotW
               first
               | (rw [if_neg (fun z => absurd c103 (i_9_10.mpr z.1))]; done)
               | (rw [hr.1] at c116; rw [if_neg (fun z => absurd c116 (Int32.not_le.mpr z.2))]; done)
               | (rw [hr.1] at c116; rw [if_pos ⟨i_9_10.mp c103, Int32.not_le.mp c116⟩, hj2, nI_clamp (by omega)]))
          · refine wx_iconst C 1 dX11_path_79 (by decide) ?_
            refine wx_goto C 84 dX11_path_80 (by decide) ?_
            refine wx_iret C hQ dX11_path_84 ?_
            refine ⟨_, rfl, rfl, Or.inr ⟨p, hp, rfl, hfr, ?_⟩⟩
            unfold mpV
            first
            | (rw [if_pos s17]; done)
            | (rw [s17, if_neg (by decide), if_pos rfl]; exact hr.1)
            | (rw [s17, if_neg (by decide), if_neg (by decide), if_pos rfl]; first | rw [if_neg c68] | (rw [if_pos c68, bI_0.mp c76]; rfl) | (rw [if_pos c68, bI_n0.mp c76]; rfl))
            | (rw [s17, if_neg (by decide), if_neg (by decide), if_neg (by decide), if_pos rfl]; first | rw [if_pos c91] | rw [if_neg c91])
            | (rw [if_neg (fun z => s17 (Or.inl z)), if_neg (fun z => s17 (Or.inr (Or.inl z))), if_neg (fun z => s17 (Or.inr (Or.inr (Or.inl z)))), if_neg (fun z => s17 (Or.inr (Or.inr (Or.inr z))))]
               unfold dotW
               first
               | (rw [if_neg (fun z => absurd c103 (i_9_10.mpr z.1))]; done)
               | (rw [hr.1] at c116; rw [if_neg (fun z => absurd c116 (Int32.not_le.mpr z.2))]; done)
               | (rw [hr.1] at c116; rw [if_pos ⟨i_9_10.mp c103, Int32.not_le.mp c116⟩, hj2, nI_clamp (by omega)]))
      · refine wx_tin C 85 dX11_path_17 (by rw [s17]; decide) (by rw [s17]; decide) (by rw [s17]; rfl) (by decide) ?_
        refine wx_aload_n C 0 dX11_path_85 rfl rfl ?_
        refine gf_X11_44 C dX11_path_86 ?_
        refine wx_iload_n C 1 dX11_path_89 rfl rfl ?_
        refine wx_zald C 158 p (by decide) (fun _ _ => rfl) (by decide) dX11_path_90 rfl (by omega) ?_
        refine wx_if_eq C 98 dX11_path_91 (by decide) (fun c91 => ?_) (fun c91 => ?_)
        · refine wx_iconst C 0 dX11_path_98 (by decide) ?_
          refine wx_iret C hQ dX11_path_99 ?_
          refine ⟨_, rfl, rfl, Or.inr ⟨p, hp, rfl, frM.rf M, ?_⟩⟩
          unfold mpV
          first
          | (rw [if_pos s17]; done)
          | (rw [s17, if_neg (by decide), if_pos rfl]; exact hr.1)
          | (rw [s17, if_neg (by decide), if_neg (by decide), if_pos rfl]; first | rw [if_neg c68] | (rw [if_pos c68, bI_0.mp c76]; rfl) | (rw [if_pos c68, bI_n0.mp c76]; rfl))
          | (rw [s17, if_neg (by decide), if_neg (by decide), if_neg (by decide), if_pos rfl]; first | rw [if_pos c91] | rw [if_neg c91])
          | (rw [if_neg (fun z => s17 (Or.inl z)), if_neg (fun z => s17 (Or.inr (Or.inl z))), if_neg (fun z => s17 (Or.inr (Or.inr (Or.inl z)))), if_neg (fun z => s17 (Or.inr (Or.inr (Or.inr z))))]
             unfold dotW
             first
             | (rw [if_neg (fun z => absurd c103 (i_9_10.mpr z.1))]; done)
             | (rw [hr.1] at c116; rw [if_neg (fun z => absurd c116 (Int32.not_le.mpr z.2))]; done)
             | (rw [hr.1] at c116; rw [if_pos ⟨i_9_10.mp c103, Int32.not_le.mp c116⟩, hj2, nI_clamp (by omega)]))
        · refine wx_iconst C 1 dX11_path_94 (by decide) ?_
          refine wx_goto C 99 dX11_path_95 (by decide) ?_
          refine wx_iret C hQ dX11_path_99 ?_
          refine ⟨_, rfl, rfl, Or.inr ⟨p, hp, rfl, frM.rf M, ?_⟩⟩
          unfold mpV
          first
          | (rw [if_pos s17]; done)
          | (rw [s17, if_neg (by decide), if_pos rfl]; exact hr.1)
          | (rw [s17, if_neg (by decide), if_neg (by decide), if_pos rfl]; first | rw [if_neg c68] | (rw [if_pos c68, bI_0.mp c76]; rfl) | (rw [if_pos c68, bI_n0.mp c76]; rfl))
          | (rw [s17, if_neg (by decide), if_neg (by decide), if_neg (by decide), if_pos rfl]; first | rw [if_pos c91] | rw [if_neg c91])
          | (rw [if_neg (fun z => s17 (Or.inl z)), if_neg (fun z => s17 (Or.inr (Or.inl z))), if_neg (fun z => s17 (Or.inr (Or.inr (Or.inl z)))), if_neg (fun z => s17 (Or.inr (Or.inr (Or.inr z))))]
             unfold dotW
             first
             | (rw [if_neg (fun z => absurd c103 (i_9_10.mpr z.1))]; done)
             | (rw [hr.1] at c116; rw [if_neg (fun z => absurd c116 (Int32.not_le.mpr z.2))]; done)
             | (rw [hr.1] at c116; rw [if_pos ⟨i_9_10.mp c103, Int32.not_le.mp c116⟩, hj2, nI_clamp (by omega)]))
    · refine wx_tout C 100 dX11_path_17 (sw_out4 s17) (by decide) ?_
      refine wx_iload_n C 2 dX11_path_100 rfl rfl ?_
      refine wx_bipush C 9 dX11_path_101 (by decide) ?_
      refine wx_icmp_le C 136 dX11_path_103 (by decide) (fun c103 => ?_) (fun c103 => ?_)
      · refine wx_iconst C (-1) dX11_path_136 (by decide) ?_
        refine wx_iret C hQ dX11_path_137 ?_
        refine ⟨_, rfl, rfl, Or.inr ⟨p, hp, rfl, frM.rf M, ?_⟩⟩
        unfold mpV
        first
        | (rw [if_pos s17]; done)
        | (rw [s17, if_neg (by decide), if_pos rfl]; exact hr.1)
        | (rw [s17, if_neg (by decide), if_neg (by decide), if_pos rfl]; first | rw [if_neg c68] | (rw [if_pos c68, bI_0.mp c76]; rfl) | (rw [if_pos c68, bI_n0.mp c76]; rfl))
        | (rw [s17, if_neg (by decide), if_neg (by decide), if_neg (by decide), if_pos rfl]; first | rw [if_pos c91] | rw [if_neg c91])
        | (rw [if_neg (fun z => s17 (Or.inl z)), if_neg (fun z => s17 (Or.inr (Or.inl z))), if_neg (fun z => s17 (Or.inr (Or.inr (Or.inl z)))), if_neg (fun z => s17 (Or.inr (Or.inr (Or.inr z))))]
           unfold dotW
           first
           | (rw [if_neg (fun z => absurd c103 (i_9_10.mpr z.1))]; done)
           | (rw [hr.1] at c116; rw [if_neg (fun z => absurd c116 (Int32.not_le.mpr z.2))]; done)
           | (rw [hr.1] at c116; rw [if_pos ⟨i_9_10.mp c103, Int32.not_le.mp c116⟩, hj2, nI_clamp (by omega)]))
      · refine wx_iload_n C 2 dX11_path_106 rfl rfl ?_
        refine wx_bipush C 10 dX11_path_107 (by decide) ?_
        refine wx_isub C dX11_path_109 ?_
        refine wx_aload_n C 0 dX11_path_110 rfl rfl ?_
        refine gf_X11_38 C dX11_path_111 ?_
        refine wx_iload_n C 1 dX11_path_114 rfl rfl ?_
        refine wx_iald C 156 p (by decide) (fun _ _ => rfl) (by decide) dX11_path_115 rfl (by omega) ?_
        refine wx_icmp_ge C 136 dX11_path_116 (by decide) (fun c116 => ?_) (fun c116 => ?_)
        · refine wx_iconst C (-1) dX11_path_136 (by decide) ?_
          refine wx_iret C hQ dX11_path_137 ?_
          refine ⟨_, rfl, rfl, Or.inr ⟨p, hp, rfl, frM.rf M, ?_⟩⟩
          unfold mpV
          first
          | (rw [if_pos s17]; done)
          | (rw [s17, if_neg (by decide), if_pos rfl]; exact hr.1)
          | (rw [s17, if_neg (by decide), if_neg (by decide), if_pos rfl]; first | rw [if_neg c68] | (rw [if_pos c68, bI_0.mp c76]; rfl) | (rw [if_pos c68, bI_n0.mp c76]; rfl))
          | (rw [s17, if_neg (by decide), if_neg (by decide), if_neg (by decide), if_pos rfl]; first | rw [if_pos c91] | rw [if_neg c91])
          | (rw [if_neg (fun z => s17 (Or.inl z)), if_neg (fun z => s17 (Or.inr (Or.inl z))), if_neg (fun z => s17 (Or.inr (Or.inr (Or.inl z)))), if_neg (fun z => s17 (Or.inr (Or.inr (Or.inr z))))]
             unfold dotW
             first
             | (rw [if_neg (fun z => absurd c103 (i_9_10.mpr z.1))]; done)
             | (rw [hr.1] at c116; rw [if_neg (fun z => absurd c116 (Int32.not_le.mpr z.2))]; done)
             | (rw [hr.1] at c116; rw [if_pos ⟨i_9_10.mp c103, Int32.not_le.mp c116⟩, hj2, nI_clamp (by omega)]))
        · have c116b := c116
          rw [hr.1] at c116b
          obtain ⟨j, hj, hj2⟩ := sub10 (by omega) (i_9_10.mp c103) (Int32.not_le.mp c116b)
          refine wx_aload_n C 0 dX11_path_119 rfl rfl ?_
          refine gf_X11_41 C dX11_path_120 ?_
          refine wx_bipush C 8 dX11_path_123 (by decide) ?_
          refine wx_iload_n C 1 dX11_path_125 rfl rfl ?_
          refine wx_imul C dX11_path_126 ?_
          refine wx_iload_n C 2 dX11_path_127 rfl rfl ?_
          refine wx_iadd C dX11_path_128 ?_
          refine wx_bipush C 10 dX11_path_129 (by decide) ?_
          refine wx_isub C dX11_path_131 ?_
          refine wx_iald C 157 (8 * p + j) (by decide) (fun _ _ => rfl) (by decide) dX11_path_132 (by rw [Int32.sub_eq_add_neg, Int32.add_assoc, ← Int32.sub_eq_add_neg, hj2, show (8 : Int32) = nI 8 from rfl, pk_mul, nI_add]) (by omega) ?_
          refine wx_goto C 137 dX11_path_133 (by decide) ?_
          refine wx_iret C hQ dX11_path_137 ?_
          refine ⟨_, rfl, rfl, Or.inr ⟨p, hp, rfl, frM.rf M, ?_⟩⟩
          unfold mpV
          first
          | (rw [if_pos s17]; done)
          | (rw [s17, if_neg (by decide), if_pos rfl]; exact hr.1)
          | (rw [s17, if_neg (by decide), if_neg (by decide), if_pos rfl]; first | rw [if_neg c68] | (rw [if_pos c68, bI_0.mp c76]; rfl) | (rw [if_pos c68, bI_n0.mp c76]; rfl))
          | (rw [s17, if_neg (by decide), if_neg (by decide), if_neg (by decide), if_pos rfl]; first | rw [if_pos c91] | rw [if_neg c91])
          | (rw [if_neg (fun z => s17 (Or.inl z)), if_neg (fun z => s17 (Or.inr (Or.inl z))), if_neg (fun z => s17 (Or.inr (Or.inr (Or.inl z)))), if_neg (fun z => s17 (Or.inr (Or.inr (Or.inr z))))]
             unfold dotW
             first
             | (rw [if_neg (fun z => absurd c103 (i_9_10.mpr z.1))]; done)
             | (rw [hr.1] at c116; rw [if_neg (fun z => absurd c116 (Int32.not_le.mpr z.2))]; done)
             | (rw [hr.1] at c116; rw [if_pos ⟨i_9_10.mp c103, Int32.not_le.mp c116⟩, hj2, nI_clamp (by omega)]))
  · refine wx_iconst C (-1) dX11_path_14 (by decide) ?_
    refine wx_iret C hQ dX11_path_15 ?_
    have h12 := hM.e12
    have hin := bI_0.mp c11
    rw [hM.he, inW_p (by omega)] at hin
    exact ⟨_, rfl, rfl, Or.inl ⟨hin, rfl, frM.rf M⟩⟩
set_option maxHeartbeats 4000000 in
set_option maxRecDepth 100000 in
theorem t_X11_heap (G : g_G) (M : g_M) (L : g_L) (x : Int32) {n e fa ac : Nat} {sz : Nat → Nat} {rr : Nat → Nat → Nat} {go : Nat → Bool} (hM : mI M n e fa ac sz rr go) : mt G yX11_heap (Cond.code yX11_heap cX11_heap 2 (some .long)) 3 [.ref (G.1 + 149), .int x] M L (qL fun v M' L' => L = L' ∧ frM M M' ∧ ((mHas M e x = false ∧ v = -1) ∨ ∃ p, p < e ∧ x = nI p ∧ M 158 p = 0 ∧ v = sumL (mLp M 0 (rr p) (sz p)) 41 * sumL (mLp M 1 (rr p) (sz p)) 41)) := by
  refine mt_of (by decide) rfl (Nat.le_of_ble_eq_true rfl) [(0, .ref (G.1 + 149)), (1, .int x)] rfl (fun X hG C hQ => ?_)
  subst hG
  refine wx_aload_n C 0 dX11_heap_0 rfl rfl ?_
  refine wx_iload_n C 1 dX11_heap_1 rfl rfl ?_
  refine ca_X11_185 C (rest := []) (t_X11_isPath X.1 M L x hM.he hM.e12) (by decide) rfl (by decide) rfl rfl (Nat.le_of_ble_eq_true rfl) dX11_heap_2 (kI fun r2 M2 L2 q2 => ?_)
  obtain ⟨rfl, rfl, rfl⟩ := q2
  refine wx_if_ne C 12 dX11_heap_5 (by decide) (fun c5 => ?_) (fun c5 => ?_)
  · obtain ⟨p, hp, rfl, hg0⟩ := mHas_t hM.e12 (bI_n0.mp c5)
    have hp12 : p < 12 := by have := hM.e12; omega
    have hr := hM.r hp12
    refine wx_aload_n C 0 dX11_heap_12 rfl rfl ?_
    refine wx_iload_n C 1 dX11_heap_13 rfl rfl ?_
    refine ca_X11_127 C (rest := []) (t_X11_take X.1 M L rfl hp12 hr.1 hr.2.1) (by decide) rfl (by decide) rfl rfl (Nat.le_of_ble_eq_true rfl) dX11_heap_14 (kV fun M14 L14 q14 => ?_)
    obtain ⟨rfl, rfl⟩ := q14
    have fr := frM_tk M (sz p) (fun b => M 157 (8 * p + b)) (sz p)
    have hk := tk_sok hr
    generalize tk M (sz p) (fun b => M 157 (8 * p + b)) (sz p) = M1 at fr hk ⊢
    refine wx_aload_n C 0 dX11_heap_17 rfl rfl ?_
    refine wx_iconst C 0 dX11_heap_18 (by decide) ?_
    refine ca_X11_123 C (rest := []) (t_lines3 X.1 M1 L hk (fr.g hM.g) 0) (by decide) rfl (by decide) rfl rfl (Nat.le_of_ble_eq_true rfl) dX11_heap_19 (kL fun r19 M19 L19 q19 => ?_)
    obtain ⟨rfl, rfl, a19, b19, rfl⟩ := q19
    rw [fr.eP]
    refine wx_aload_n C 0 dX11_heap_22 rfl rfl ?_
    refine wx_iconst C 1 dX11_heap_23 (by decide) ?_
    refine ca_X11_123 C (rest := [.long (sumL (mLp M 0 (rr p) (sz p)) 41)]) (t_lines3 X.1 (mn M1 a19 b19) L (hk.mn a19 b19) ((frM_mn M1 a19 b19).g (fr.g hM.g)) 1) (by decide) rfl (by decide) rfl rfl (Nat.le_of_ble_eq_true rfl) dX11_heap_24 (kL fun r24 M24 L24 q24 => ?_)
    obtain ⟨rfl, rfl, a24, b24, rfl⟩ := q24
    have fr2 := fr.trans (frM_mn M1 a19 b19)
    rw [fr2.eP]
    refine wx_lmul C dX11_heap_27 ?_
    refine wx_lret C hQ dX11_heap_28 ?_
    exact ⟨_, rfl, rfl, fr2.trans (frM_mn _ _ _), Or.inr ⟨p, hp, rfl, hg0, rfl⟩⟩
  · refine wx_ldc2 C w4_206 dX11_heap_8 ?_
    refine wx_lret C hQ dX11_heap_11 ?_
    exact ⟨_, rfl, rfl, frM.rf M, Or.inl ⟨bI_0.mp c5, rfl⟩⟩
theorem in03 {k : Int32} (h : inW k 0 3 = true) : k = 0 ∨ k = 1 ∨ k = 2 ∨ k = 3 := by
  have h := of_decide_eq_true h
  rw [i_le, i_le, show (0 : Int32).toInt = 0 from rfl, show (3 : Int32).toInt = 3 from rfl] at h
  rw [i_eq, i_eq, i_eq, i_eq, show (0 : Int32).toInt = 0 from rfl, show (1 : Int32).toInt = 1 from rfl, show (2 : Int32).toInt = 2 from rfl, show (3 : Int32).toInt = 3 from rfl]
  omega
theorem k_half {k : Int32} (h : inW k 0 3 = true) : k / 2 = (if 2 ≤ k then 1 else 0) ∧ (¬ k - k / 2 * 2 = 0 ↔ k - k / 2 * 2 = 1) ∧ ((if 2 ≤ k then (1 : Int32) else 0) = 0 ∨ (if 2 ≤ k then (1 : Int32) else 0) = 1) := by
  rcases in03 h with rfl | rfl | rfl | rfl <;> decide
theorem msnd_ax {M : g_M} {r : Nat → Nat} {l : Nat} (h : msnd M r l = true) {ax : Int32} (ha : ax = 0 ∨ ax = 1) : anyS (mLp M ax r l) 41 = true := by
  unfold msnd at h
  rw [Bool.and_eq_true] at h
  rcases ha with rfl | rfl
  · exact h.1
  · exact h.2
set_option maxHeartbeats 4000000 in
set_option maxRecDepth 100000 in
theorem t_X11_ahead (G : g_G) (M : g_M) (L : g_L) (x h k : Int32) {n e fa ac : Nat} {sz : Nat → Nat} {rr : Nat → Nat → Nat} {go : Nat → Bool} (hM : mI M n e fa ac sz rr go) : mt G yX11_ahead (Cond.code yX11_ahead cX11_ahead 4 (some .long)) 5 [.ref (G.1 + 149), .int x, .int h, .int k] M L (qL fun v M' L' => frM M M' ∧ (((mHas M e x = false ∨ inW h 0 400 = false ∨ inW k 0 3 = false) ∧ v = NO) ∨ (inW h 0 400 = true ∧ inW k 0 3 = true ∧ ∃ p, p < e ∧ x = nI p ∧ M 158 p = 0 ∧ v = (if msnd M (rr p) (sz p) then edS (mLp M (if 2 ≤ k then 1 else 0) (rr p) (sz p)) h (decide (k - k / 2 * 2 = 1)) 41 else NO)))) := by
  refine mt_of (by decide) rfl (Nat.le_of_ble_eq_true rfl) [(0, .ref (G.1 + 149)), (1, .int x), (2, .int h), (3, .int k)] rfl (fun X hG C hQ => ?_)
  subst hG
  refine wx_aload_n C 0 dX11_ahead_0 rfl rfl ?_
  refine wx_iload_n C 1 dX11_ahead_1 rfl rfl ?_
  refine ca_X11_185 C (rest := []) (t_X11_isPath X.1 M L x hM.he hM.e12) (by decide) rfl (by decide) rfl rfl (Nat.le_of_ble_eq_true rfl) dX11_ahead_2 (kI fun r2 M2 L2 q2 => ?_)
  obtain ⟨rfl, rfl, rfl⟩ := q2
  refine wx_if_eq C 36 dX11_ahead_5 (by decide) (fun c5 => ?_) (fun c5 => ?_)
  · refine wx_ldc2 C w4_211 dX11_ahead_36 ?_
    refine wx_lret C hQ dX11_ahead_39 ?_
    refine ⟨_, rfl, ?_, ?_⟩
    · first
      | exact frM.rf M
      | exact hfr
    first
    | exact Or.inl ⟨Or.inl (bI_0.mp c5), rfl⟩
    | exact Or.inl ⟨Or.inr (Or.inl (bI_0.mp c16)), rfl⟩
    | exact Or.inl ⟨Or.inr (Or.inr (bI_0.mp c25)), rfl⟩
    | exact Or.inr ⟨bI_n0.mp c16, bI_n0.mp c25, p, hp, rfl, hg0, by rw [if_neg (by rw [bI_0.mp c33]; decide)]; rfl⟩
  · obtain ⟨p, hp, rfl, hg0⟩ := mHas_t hM.e12 (bI_n0.mp c5)
    have hp12 : p < 12 := by have := hM.e12; omega
    have hr := hM.r hp12
    refine wx_iload_n C 2 dX11_ahead_8 rfl rfl ?_
    refine wx_iconst C 0 dX11_ahead_9 (by decide) ?_
    refine wx_sipush C 400 dX11_ahead_10 (by decide) ?_
    refine ca_X11_78 C (rest := []) (t_X11_isIn X.1 M L h 0 400) (by decide) rfl rfl (Nat.le_of_ble_eq_true rfl) dX11_ahead_13 (kI fun r13 M13 L13 q13 => ?_)
    obtain ⟨rfl, rfl, rfl⟩ := q13
    refine wx_if_eq C 36 dX11_ahead_16 (by decide) (fun c16 => ?_) (fun c16 => ?_)
    · refine wx_ldc2 C w4_211 dX11_ahead_36 ?_
      refine wx_lret C hQ dX11_ahead_39 ?_
      refine ⟨_, rfl, ?_, ?_⟩
      · first
        | exact frM.rf M
        | exact hfr
      first
      | exact Or.inl ⟨Or.inl (bI_0.mp c5), rfl⟩
      | exact Or.inl ⟨Or.inr (Or.inl (bI_0.mp c16)), rfl⟩
      | exact Or.inl ⟨Or.inr (Or.inr (bI_0.mp c25)), rfl⟩
      | exact Or.inr ⟨bI_n0.mp c16, bI_n0.mp c25, p, hp, rfl, hg0, by rw [if_neg (by rw [bI_0.mp c33]; decide)]; rfl⟩
    · refine wx_iload_n C 3 dX11_ahead_19 rfl rfl ?_
      refine wx_iconst C 0 dX11_ahead_20 (by decide) ?_
      refine wx_iconst C 3 dX11_ahead_21 (by decide) ?_
      refine ca_X11_78 C (rest := []) (t_X11_isIn X.1 M L k 0 3) (by decide) rfl rfl (Nat.le_of_ble_eq_true rfl) dX11_ahead_22 (kI fun r22 M22 L22 q22 => ?_)
      obtain ⟨rfl, rfl, rfl⟩ := q22
      refine wx_if_eq C 36 dX11_ahead_25 (by decide) (fun c25 => ?_) (fun c25 => ?_)
      · refine wx_ldc2 C w4_211 dX11_ahead_36 ?_
        refine wx_lret C hQ dX11_ahead_39 ?_
        refine ⟨_, rfl, ?_, ?_⟩
        · first
          | exact frM.rf M
          | exact hfr
        first
        | exact Or.inl ⟨Or.inl (bI_0.mp c5), rfl⟩
        | exact Or.inl ⟨Or.inr (Or.inl (bI_0.mp c16)), rfl⟩
        | exact Or.inl ⟨Or.inr (Or.inr (bI_0.mp c25)), rfl⟩
        | exact Or.inr ⟨bI_n0.mp c16, bI_n0.mp c25, p, hp, rfl, hg0, by rw [if_neg (by rw [bI_0.mp c33]; decide)]; rfl⟩
      · refine wx_aload_n C 0 dX11_ahead_28 rfl rfl ?_
        refine wx_iload_n C 1 dX11_ahead_29 rfl rfl ?_
        refine ca_X11_188 C (rest := []) (t_X11_isSound X.1 M L rfl hp12 hr hM.g) (by decide) rfl (by decide) rfl rfl (Nat.le_of_ble_eq_true rfl) dX11_ahead_30 (kI fun r30 M30 L30 q30 => ?_)
        obtain ⟨rfl, rfl, hfr, hso⟩ := q30
        refine wx_if_ne C 40 dX11_ahead_33 (by decide) (fun c33 => ?_) (fun c33 => ?_)
        · refine wx_aload_n C 0 dX11_ahead_40 rfl rfl ?_
          refine wx_iload_n C 3 dX11_ahead_41 rfl rfl ?_
          refine wx_iconst C 2 dX11_ahead_42 (by decide) ?_
          refine wx_idiv C dX11_ahead_43 (by decide) ?_
          refine wx_iload_n C 2 dX11_ahead_44 rfl rfl ?_
          refine ca_X11_195 C (rest := []) (t_X11_ahead0 X.1 M30 L hso (hfr.g hM.g) (k / 2) h) (by decide) rfl (by decide) rfl rfl (Nat.le_of_ble_eq_true rfl) dX11_ahead_45 (kV fun M45 L45 q45 => ?_)
          obtain ⟨⟨a45, b45, rfl⟩, hed⟩ := q45
          have hkh := k_half (bI_n0.mp c25)
          rw [hkh.1, hfr.eP] at hed
          obtain ⟨hl1, hl2⟩ := hed (msnd_ax (bI_n0.mp c33) hkh.2.2)
          refine wx_iload_n C 3 dX11_ahead_48 rfl rfl ?_
          refine wx_iconst C 2 dX11_ahead_49 (by decide) ?_
          refine wx_irem C dX11_ahead_50 (by decide) ?_
          refine wx_if_ne C 61 dX11_ahead_51 (by decide) (fun c51 => ?_) (fun c51 => ?_)
          · refine wx_aload_n C 0 dX11_ahead_61 rfl rfl ?_
            refine gf_X11_142 C dX11_ahead_62 ?_
            refine wx_lret C hQ dX11_ahead_65 ?_
            refine ⟨_, rfl, hfr.trans (frM_mn _ _ _), Or.inr ⟨bI_n0.mp c16, bI_n0.mp c25, p, hp, rfl, hg0, ?_⟩⟩
            rw [if_pos (bI_n0.mp c33)]
            rw [decide_eq_true (hkh.2.1.mp c51)]
            exact hl2
          · refine wx_aload_n C 0 dX11_ahead_54 rfl rfl ?_
            refine gf_X11_135 C dX11_ahead_55 ?_
            refine wx_goto C 65 dX11_ahead_58 (by decide) ?_
            refine wx_lret C hQ dX11_ahead_65 ?_
            refine ⟨_, rfl, hfr.trans (frM_mn _ _ _), Or.inr ⟨bI_n0.mp c16, bI_n0.mp c25, p, hp, rfl, hg0, ?_⟩⟩
            rw [if_pos (bI_n0.mp c33)]
            rw [decide_eq_false (fun z => absurd c51 (hkh.2.1.mpr z))]
            exact hl1
        · refine wx_ldc2 C w4_211 dX11_ahead_36 ?_
          refine wx_lret C hQ dX11_ahead_39 ?_
          refine ⟨_, rfl, ?_, ?_⟩
          · first
            | exact frM.rf M
            | exact hfr
          first
          | exact Or.inl ⟨Or.inl (bI_0.mp c5), rfl⟩
          | exact Or.inl ⟨Or.inr (Or.inl (bI_0.mp c16)), rfl⟩
          | exact Or.inl ⟨Or.inr (Or.inr (bI_0.mp c25)), rfl⟩
          | exact Or.inr ⟨bI_n0.mp c16, bI_n0.mp c25, p, hp, rfl, hg0, by rw [if_neg (by rw [bI_0.mp c33]; decide)]; rfl⟩
set_option maxHeartbeats 4000000 in
set_option maxRecDepth 100000 in
theorem t_X11_isWithin (G : g_G) (M : g_M) (L : g_L) {x : Int32} {d l : Nat} {r : Nat → Nat} (hx : x = nI d) (hd : d < 60) (hk : sok M l r) (hg : 1 ≤ (M 149 3).toInt) (ax : Int32) (hany : anyS (mLp M ax r l) 41 = true) : mt G yX11_isWithin (Cond.code yX11_isWithin cX11_isWithin 4 (some .boolean)) 3 [.ref (G.1 + 149), .int x, .int ax] M L (qI fun v M' L' => v = bI (rchB (mLp M ax r l) (plc (M 151) (M 152) ax d) (M 150 d)) ∧ ∃ a b, M' = mn M a b) := by
  refine mt_of (by decide) rfl (Nat.le_of_ble_eq_true rfl) [(0, .ref (G.1 + 149)), (1, .int x), (2, .int ax)] rfl (fun X hG C hQ => ?_)
  subst hG
  refine wx_aload_n C 0 dX11_isWithin_0 rfl rfl ?_
  refine wx_iload_n C 2 dX11_isWithin_1 rfl rfl ?_
  refine wx_aload_n C 0 dX11_isWithin_2 rfl rfl ?_
  refine gf_X11_19 C dX11_isWithin_3 ?_
  refine wx_iload_n C 1 dX11_isWithin_6 rfl rfl ?_
  refine wx_iald C 150 d (by decide) (fun _ _ => rfl) (by decide) dX11_isWithin_7 hx hd ?_
  refine ca_X11_195 C (rest := []) (t_X11_ahead0 X.1 M L hk hg ax (M 150 d)) (by decide) rfl (by decide) rfl rfl (Nat.le_of_ble_eq_true rfl) dX11_isWithin_8 (kV fun M8 L8 q8 => ?_)
  obtain ⟨⟨a8, b8, rfl⟩, hed⟩ := q8
  obtain ⟨hl1, hl2⟩ := hed hany
  refine wx_aload_n C 0 dX11_isWithin_11 rfl rfl ?_
  refine wx_iload_n C 1 dX11_isWithin_12 rfl rfl ?_
  refine wx_iload_n C 2 dX11_isWithin_13 rfl rfl ?_
  refine ca_X11_99 C (rest := []) (t_X11_placeOf X.1 (mn M a8 b8) L8 hx hd ax) (by decide) rfl (by decide) rfl rfl (Nat.le_of_ble_eq_true rfl) dX11_isWithin_14 (kI fun r14 M14 L14 q14 => ?_)
  obtain ⟨rfl, rfl, rfl⟩ := q14
  refine wx_nmi (fun at0 hat0 => ?_)
  refine wx_istore_n C [1, 2, 3, 0] [(0, .ref (X.1.1 + 149)), (1, .int x), (2, .int ax), (3, .int at0)] dX11_isWithin_17 rfl (by decide) rfl ?_
  rw [mn_o M a8 b8 (by decide), mn_o M a8 b8 (by decide)] at hat0
  refine wx_iload_n C 3 dX11_isWithin_18 rfl rfl ?_
  refine wx_i2l C dX11_isWithin_19 ?_
  refine wx_aload_n C 0 dX11_isWithin_20 rfl rfl ?_
  refine gf_X11_135 C dX11_isWithin_21 ?_
  refine wx_aload_n C 0 dX11_isWithin_24 rfl rfl ?_
  refine gf_X11_16 C dX11_isWithin_25 ?_
  refine wx_i2l C dX11_isWithin_28 ?_
  refine wx_lsub C dX11_isWithin_29 ?_
  refine wx_lcmp C dX11_isWithin_30 ?_
  refine wx_if_lt C 54 dX11_isWithin_31 (by decide) (fun c31 => ?_) (fun c31 => ?_)
  · refine wx_iconst C 0 dX11_isWithin_54 (by decide) ?_
    refine wx_zret C hQ dX11_isWithin_55 (by decide) ?_
    refine ⟨_, rfl, ?_, a8, b8, rfl⟩
    unfold rchB
    rw [decide_eq_false]
    · rfl
    · intro z
      rw [← hl1, ← hl2, ← hat0] at z
      first
      | (have hc := (lg_cmp_lt _ _).mp c31
         exact absurd hc (Int64.not_lt.mpr z.1))
      | (have hc := (lg_cmp_gt _ _).mp c47
         exact absurd hc (Int64.not_lt.mpr z.2))
  · refine wx_iload_n C 3 dX11_isWithin_34 rfl rfl ?_
    refine wx_i2l C dX11_isWithin_35 ?_
    refine wx_aload_n C 0 dX11_isWithin_36 rfl rfl ?_
    refine gf_X11_142 C dX11_isWithin_37 ?_
    refine wx_aload_n C 0 dX11_isWithin_40 rfl rfl ?_
    refine gf_X11_16 C dX11_isWithin_41 ?_
    refine wx_i2l C dX11_isWithin_44 ?_
    refine wx_ladd C dX11_isWithin_45 ?_
    refine wx_lcmp C dX11_isWithin_46 ?_
    refine wx_if_gt C 54 dX11_isWithin_47 (by decide) (fun c47 => ?_) (fun c47 => ?_)
    · refine wx_iconst C 0 dX11_isWithin_54 (by decide) ?_
      refine wx_zret C hQ dX11_isWithin_55 (by decide) ?_
      refine ⟨_, rfl, ?_, a8, b8, rfl⟩
      unfold rchB
      rw [decide_eq_false]
      · rfl
      · intro z
        rw [← hl1, ← hl2, ← hat0] at z
        first
        | (have hc := (lg_cmp_lt _ _).mp c31
           exact absurd hc (Int64.not_lt.mpr z.1))
        | (have hc := (lg_cmp_gt _ _).mp c47
           exact absurd hc (Int64.not_lt.mpr z.2))
    · refine wx_iconst C 1 dX11_isWithin_50 (by decide) ?_
      refine wx_goto C 55 dX11_isWithin_51 (by decide) ?_
      refine wx_zret C hQ dX11_isWithin_55 (by decide) ?_
      refine ⟨_, rfl, ?_, a8, b8, rfl⟩
      unfold rchB
      rw [decide_eq_true]
      · rfl
      · rw [← hl1, ← hl2, ← hat0]
        exact ⟨Int64.not_lt.mp (fun z => c31 ((lg_cmp_lt _ _).mpr z)), Int64.not_lt.mp (fun z => c47 ((lg_cmp_gt _ _).mpr z))⟩
def mrch (M : g_M) (r : Nat → Nat) (l e : Nat) : Bool := msnd M r l && (rchB (mLp M 0 r l) (plc (M 151) (M 152) 0 e) (M 150 e) && rchB (mLp M 1 r l) (plc (M 151) (M 152) 1 e) (M 150 e))
def mRch (M : g_M) (sz : Nat → Nat) (rr : Nat → Nat → Nat) (d p : Nat) : Bool := decide (M 158 p = 0) && mrch M (rr p) (sz p) d
theorem frM.eR {M N : g_M} (h : frM M N) {ax : Int32} {r : Nat → Nat} {l d : Nat} : rchB (mLp N ax r l) (plc (N 151) (N 152) ax d) (N 150 d) = rchB (mLp M ax r l) (plc (M 151) (M 152) ax d) (M 150 d) := by
  rw [h.eP, h.o 150 (by decide) (by decide), h.o 151 (by decide) (by decide), h.o 152 (by decide) (by decide)]
theorem mHas_n {M : g_M} {p e : Nat} (h12 : e ≤ 12) (hp : p < e) : mHas M e (nI p) = decide (M 158 p = 0) := by
  unfold mHas
  rw [nI_clamp (by omega)]
  have : dHas e (nI p) = true := by
    unfold dHas
    refine decide_eq_true ⟨?_, (nI_ltI (by omega) (by omega)).mpr hp⟩
    rw [i_le, nI_toInt (by omega), show (0 : Int32).toInt = 0 from rfl]; omega
  rw [this, Bool.true_and]
set_option maxHeartbeats 4000000 in
set_option maxRecDepth 100000 in
theorem lp_X11_tellOff {X : g_X} {Qr : Option Value → g_M → g_L → Prop} (C : Cx X cX11_tellOff 4 RX11 (some .int) 5) (hQ : Rx X Qr) {M : g_M} {L : g_L} {n e fa ac : Nat} {sz : Nat → Nat} {rr : Nat → Nat → Nat} {go : Nat → Bool} (hM : mI M n e fa ac sz rr go) {d : Nat} (hd : d < 60) : ∀ (kk i : Nat), i ≤ e → e < i + kk → ∀ (N : g_M) (K : g_L) (bs : Int32), frM M N → (∀ N2 K2, frM M N2 → Qr (some (.int (tfS (mRch M sz rr d) i (e - i) bs))) N2 K2) → wx X N K 24 [(0, .ref (X.1.1 + 149)), (1, .int (nI d)), (2, .int bs), (3, .int (nI i))] [] := by
  intro kk
  induction kk with
  | zero =>
    intro i h1 h2
    exact absurd h2 (by omega)
  | succ kk ih =>
    intro i hi0 hin N K bs hN hp2
    have hMN := hM.fr hN
    have h12 := hM.e12
    refine wx_iload_n C 3 dX11_tellOff_24 rfl rfl ?_
    refine wx_aload_n C 0 dX11_tellOff_25 rfl rfl ?_
    refine gf_X11_82 C dX11_tellOff_26 ?_
    refine wx_icmp_ge C 84 dX11_tellOff_29 (by decide) (fun c29 => ?_) (fun c29 => ?_)
    · have hib : i = e := by
        rw [hMN.he] at c29
        exact Nat.le_antisymm hi0 ((nI_leI (by omega) (by omega)).mp c29)
      refine wx_iload_n C 2 dX11_tellOff_84 rfl rfl ?_
      refine wx_iret C hQ dX11_tellOff_85 ?_
      have hz := hp2 N K hN
      rw [hib, Nat.sub_self, tfS] at hz
      exact hz
    · have hi : i < e := by
        rw [hMN.he] at c29
        exact Nat.lt_of_not_le (fun h => c29 ((nI_leI (by omega) (by omega)).mpr h))
      have hrN := hMN.r (p := i) (by omega)
      have hG0 : mHas N e (nI i) = decide (M 158 i = 0) := by rw [mHas_n h12 hi, hN 158 i (by omega) (by omega)]
      refine wx_aload_n C 0 dX11_tellOff_32 rfl rfl ?_
      refine wx_iload_n C 3 dX11_tellOff_33 rfl rfl ?_
      refine ca_X11_185 C (rest := []) (t_X11_isPath X.1 N K (nI i) hMN.he h12) (by decide) rfl (by decide) rfl rfl (Nat.le_of_ble_eq_true rfl) dX11_tellOff_34 (kI fun r34 M34 L34 q34 => ?_)
      obtain ⟨rfl, rfl, rfl⟩ := q34
      refine wx_if_eq C 78 dX11_tellOff_37 (by decide) (fun c37 => ?_) (fun c37 => ?_)
      · refine wx_iinc C (v := (nI (i + 1))) 3 [1, 2, 3, 0] [(0, .ref (X.1.1 + 149)), (1, .int (nI d)), (2, .int bs), (3, .int (nI (i + 1)))] dX11_tellOff_78 rfl (nI_1 _) (by decide) rfl ?_
        refine wx_goto C 24 dX11_tellOff_81 (by decide) ?_
        have hR : mRch M sz rr d i = false := by
          unfold mRch mrch
          first
          | (rw [← hG0, bI_0.mp c37]; rfl)
          | (rw [bI_0.mp c45, Bool.false_and, Bool.and_false])
          | (rw [bI_0.mp c54, Bool.false_and, Bool.and_false, Bool.and_false])
          | (rw [bI_0.mp c63, Bool.and_false, Bool.and_false, Bool.and_false])
        refine wx_sub [0, 1, 2, 3] rfl (ih (i + 1) (by omega) (by omega) _ _ _ hN ?_)
        intro N2 K2 hN2
        have hz := hp2 N2 K2 hN2
        rw [show e - i = (e - (i + 1)) + 1 by omega, tfS] at hz
        rw [if_neg (by rw [hR]; decide)] at hz
        exact hz
      · refine wx_aload_n C 0 dX11_tellOff_40 rfl rfl ?_
        refine wx_iload_n C 3 dX11_tellOff_41 rfl rfl ?_
        refine ca_X11_188 C (rest := []) (t_X11_isSound X.1 N K (p := i) rfl (by omega) hrN hMN.g) (by decide) rfl (by decide) rfl rfl (Nat.le_of_ble_eq_true rfl) dX11_tellOff_42 (kI fun r42 N42 L42 q42 => ?_)
        obtain ⟨rfl, rfl, hfr, hso⟩ := q42
        rw [hN.eS]
        refine wx_if_eq C 78 dX11_tellOff_45 (by decide) (fun c45 => ?_) (fun c45 => ?_)
        · refine wx_iinc C (v := (nI (i + 1))) 3 [1, 2, 3, 0] [(0, .ref (X.1.1 + 149)), (1, .int (nI d)), (2, .int bs), (3, .int (nI (i + 1)))] dX11_tellOff_78 rfl (nI_1 _) (by decide) rfl ?_
          refine wx_goto C 24 dX11_tellOff_81 (by decide) ?_
          have hR : mRch M sz rr d i = false := by
            unfold mRch mrch
            first
            | (rw [← hG0, bI_0.mp c37]; rfl)
            | (rw [bI_0.mp c45, Bool.false_and, Bool.and_false])
            | (rw [bI_0.mp c54, Bool.false_and, Bool.and_false, Bool.and_false])
            | (rw [bI_0.mp c63, Bool.and_false, Bool.and_false, Bool.and_false])
          refine wx_sub [0, 1, 2, 3] rfl (ih (i + 1) (by omega) (by omega) _ _ _ (hN.trans hfr) ?_)
          intro N2 K2 hN2
          have hz := hp2 N2 K2 hN2
          rw [show e - i = (e - (i + 1)) + 1 by omega, tfS] at hz
          rw [if_neg (by rw [hR]; decide)] at hz
          exact hz
        · refine wx_aload_n C 0 dX11_tellOff_48 rfl rfl ?_
          refine wx_iload_n C 1 dX11_tellOff_49 rfl rfl ?_
          refine wx_iconst C 0 dX11_tellOff_50 (by decide) ?_
          refine ca_X11_198 C (rest := []) (t_X11_isWithin X.1 N42 K (d := d) rfl hd hso (hfr.g hMN.g) 0 (by rw [(hN.trans hfr).eP]; exact msnd_ax (bI_n0.mp c45) (Or.inl rfl))) (by decide) rfl (by decide) rfl rfl (Nat.le_of_ble_eq_true rfl) dX11_tellOff_51 (kI fun r51 M51 L51 q51 => ?_)
          obtain ⟨rfl, a51, b51, rfl⟩ := q51
          rw [(hN.trans hfr).eR]
          refine wx_if_eq C 78 dX11_tellOff_54 (by decide) (fun c54 => ?_) (fun c54 => ?_)
          · refine wx_iinc C (v := (nI (i + 1))) 3 [1, 2, 3, 0] [(0, .ref (X.1.1 + 149)), (1, .int (nI d)), (2, .int bs), (3, .int (nI (i + 1)))] dX11_tellOff_78 rfl (nI_1 _) (by decide) rfl ?_
            refine wx_goto C 24 dX11_tellOff_81 (by decide) ?_
            have hR : mRch M sz rr d i = false := by
              unfold mRch mrch
              first
              | (rw [← hG0, bI_0.mp c37]; rfl)
              | (rw [bI_0.mp c45, Bool.false_and, Bool.and_false])
              | (rw [bI_0.mp c54, Bool.false_and, Bool.and_false, Bool.and_false])
              | (rw [bI_0.mp c63, Bool.and_false, Bool.and_false, Bool.and_false])
            refine wx_sub [0, 1, 2, 3] rfl (ih (i + 1) (by omega) (by omega) _ _ _ ((hN.trans hfr).trans (frM_mn _ _ _)) ?_)
            intro N2 K2 hN2
            have hz := hp2 N2 K2 hN2
            rw [show e - i = (e - (i + 1)) + 1 by omega, tfS] at hz
            rw [if_neg (by rw [hR]; decide)] at hz
            exact hz
          · refine wx_aload_n C 0 dX11_tellOff_57 rfl rfl ?_
            refine wx_iload_n C 1 dX11_tellOff_58 rfl rfl ?_
            refine wx_iconst C 1 dX11_tellOff_59 (by decide) ?_
            refine ca_X11_198 C (rest := []) (t_X11_isWithin X.1 (mn N42 a51 b51) L51 (d := d) rfl hd (hso.mn a51 b51) ((frM_mn N42 a51 b51).g (hfr.g hMN.g)) 1 (by rw [((hN.trans hfr).trans (frM_mn N42 a51 b51)).eP]; exact msnd_ax (bI_n0.mp c45) (Or.inr rfl))) (by decide) rfl (by decide) rfl rfl (Nat.le_of_ble_eq_true rfl) dX11_tellOff_60 (kI fun r60 M60 L60 q60 => ?_)
            obtain ⟨rfl, a60, b60, rfl⟩ := q60
            rw [((hN.trans hfr).trans (frM_mn N42 a51 b51)).eR]
            refine wx_if_ne C 69 dX11_tellOff_63 (by decide) (fun c63 => ?_) (fun c63 => ?_)
            · have hR : mRch M sz rr d i = true := by
                unfold mRch mrch
                rw [← hG0, bI_n0.mp c37, bI_n0.mp c45, bI_n0.mp c54, bI_n0.mp c63]
                rfl
              refine wx_iload_n C 2 dX11_tellOff_69 rfl rfl ?_
              refine wx_iconst C (-1) dX11_tellOff_70 (by decide) ?_
              refine wx_icmp_eq C 76 dX11_tellOff_71 (by decide) (fun c71 => ?_) (fun c71 => ?_)
              · refine wx_iload_n C 3 dX11_tellOff_76 rfl rfl ?_
                refine wx_istore_n C [1, 2, 0, 3] [(0, .ref (X.1.1 + 149)), (1, .int (nI d)), (2, .int (nI i)), (3, .int (nI i))] dX11_tellOff_77 rfl (by decide) rfl ?_
                refine wx_iinc C (v := (nI (i + 1))) 3 [1, 2, 3, 0] [(0, .ref (X.1.1 + 149)), (1, .int (nI d)), (2, .int (nI i)), (3, .int (nI (i + 1)))] dX11_tellOff_78 rfl (nI_1 _) (by decide) rfl ?_
                refine wx_goto C 24 dX11_tellOff_81 (by decide) ?_
                refine wx_sub [0, 1, 2, 3] rfl (ih (i + 1) (by omega) (by omega) _ _ _ ((hN.trans hfr).trans ((frM_mn _ _ _).trans (frM_mn _ _ _))) ?_)
                intro N2 K2 hN2
                have hz := hp2 N2 K2 hN2
                rw [show e - i = (e - (i + 1)) + 1 by omega, tfS] at hz
                rw [if_pos hR, if_pos c71] at hz
                exact hz
              · refine wx_iconst C (-1) dX11_tellOff_74 (by decide) ?_
                refine wx_iret C hQ dX11_tellOff_75 ?_
                have hz := hp2 _ L60 ((hN.trans hfr).trans ((frM_mn N42 a51 b51).trans (frM_mn _ a60 b60)))
                rw [show e - i = (e - (i + 1)) + 1 by omega, tfS, if_pos hR, if_neg c71] at hz
                exact hz
            · refine wx_goto C 78 dX11_tellOff_66 (by decide) ?_
              refine wx_iinc C (v := (nI (i + 1))) 3 [1, 2, 3, 0] [(0, .ref (X.1.1 + 149)), (1, .int (nI d)), (2, .int bs), (3, .int (nI (i + 1)))] dX11_tellOff_78 rfl (nI_1 _) (by decide) rfl ?_
              refine wx_goto C 24 dX11_tellOff_81 (by decide) ?_
              have hR : mRch M sz rr d i = false := by
                unfold mRch mrch
                first
                | (rw [← hG0, bI_0.mp c37]; rfl)
                | (rw [bI_0.mp c45, Bool.false_and, Bool.and_false])
                | (rw [bI_0.mp c54, Bool.false_and, Bool.and_false, Bool.and_false])
                | (rw [bI_0.mp c63, Bool.and_false, Bool.and_false, Bool.and_false])
              refine wx_sub [0, 1, 2, 3] rfl (ih (i + 1) (by omega) (by omega) _ _ _ ((hN.trans hfr).trans ((frM_mn _ _ _).trans (frM_mn _ _ _))) ?_)
              intro N2 K2 hN2
              have hz := hp2 N2 K2 hN2
              rw [show e - i = (e - (i + 1)) + 1 by omega, tfS] at hz
              rw [if_neg (by rw [hR]; decide)] at hz
              exact hz
set_option maxHeartbeats 4000000 in
set_option maxRecDepth 100000 in
theorem t_X11_tellOff (G : g_G) (M : g_M) (L : g_L) (y : Int32) {n e fa ac : Nat} {sz : Nat → Nat} {rr : Nat → Nat → Nat} {go : Nat → Bool} (hM : mI M n e fa ac sz rr go) : mt G yX11_tellOff (Cond.code yX11_tellOff cX11_tellOff 4 (some .int)) 5 [.ref (G.1 + 149), .int y] M L (qI fun v M' L' => frM M M' ∧ ((dHas n y = false ∧ v = -1) ∨ ∃ d, d < n ∧ y = nI d ∧ ((¬ M 154 d = -1 ∧ v = -1) ∨ (M 154 d = -1 ∧ v = tfS (mRch M sz rr d) 0 e (-1))))) := by
  refine mt_of (by decide) rfl (Nat.le_of_ble_eq_true rfl) [(0, .ref (G.1 + 149)), (1, .int y)] rfl (fun X hG C hQ => ?_)
  subst hG
  refine wx_aload_n C 0 dX11_tellOff_0 rfl rfl ?_
  refine wx_iload_n C 1 dX11_tellOff_1 rfl rfl ?_
  refine ca_X11_88 C (rest := []) (t_X11_isDot X.1 M L y hM.hn hM.n60) (by decide) rfl (by decide) rfl rfl (Nat.le_of_ble_eq_true rfl) dX11_tellOff_2 (kI fun r2 M2 L2 q2 => ?_)
  obtain ⟨rfl, rfl, rfl⟩ := q2
  refine wx_if_eq C 18 dX11_tellOff_5 (by decide) (fun c5 => ?_) (fun c5 => ?_)
  · refine wx_iconst C (-1) dX11_tellOff_18 (by decide) ?_
    refine wx_iret C hQ dX11_tellOff_19 ?_
    refine ⟨_, rfl, frM.rf M, ?_⟩
    first
    | exact Or.inl ⟨bI_0.mp c5, rfl⟩
    | exact Or.inr ⟨d, hd, rfl, Or.inl ⟨c15, rfl⟩⟩
  · have hin := bI_n0.mp c5
    obtain ⟨d, hd, rfl⟩ := dHas_t (by have := hM.n60; omega) hin
    have hd60 : d < 60 := by have := hM.n60; omega
    refine wx_aload_n C 0 dX11_tellOff_8 rfl rfl ?_
    refine gf_X11_32 C dX11_tellOff_9 ?_
    refine wx_iload_n C 1 dX11_tellOff_12 rfl rfl ?_
    refine wx_iald C 154 d (by decide) (fun _ _ => rfl) (by decide) dX11_tellOff_13 rfl hd60 ?_
    refine wx_iconst C (-1) dX11_tellOff_14 (by decide) ?_
    refine wx_icmp_eq C 20 dX11_tellOff_15 (by decide) (fun c15 => ?_) (fun c15 => ?_)
    · refine wx_iconst C (-1) dX11_tellOff_20 (by decide) ?_
      refine wx_istore_n C [1, 2, 0] [(0, .ref (X.1.1 + 149)), (1, .int (nI d)), (2, .int (-1))] dX11_tellOff_21 rfl (by decide) rfl ?_
      refine wx_iconst C 0 dX11_tellOff_22 (by decide) ?_
      refine wx_istore_n C [1, 2, 3, 0] [(0, .ref (X.1.1 + 149)), (1, .int (nI d)), (2, .int (-1)), (3, .int 0)] dX11_tellOff_23 rfl (by decide) rfl ?_
      exact lp_X11_tellOff (L := L) C hQ hM hd60 (e + 1) 0 (by omega) (by omega) M L (-1) (frM.rf M) (fun N2 K2 hN2 => ⟨_, rfl, hN2, Or.inr ⟨d, hd, rfl, Or.inr ⟨c15, by rw [Nat.sub_zero]⟩⟩⟩)
    · refine wx_iconst C (-1) dX11_tellOff_18 (by decide) ?_
      refine wx_iret C hQ dX11_tellOff_19 ?_
      refine ⟨_, rfl, frM.rf M, ?_⟩
      first
      | exact Or.inl ⟨bI_0.mp c5, rfl⟩
      | exact Or.inr ⟨d, hd, rfl, Or.inl ⟨c15, rfl⟩⟩
set_option maxHeartbeats 4000000 in
set_option maxRecDepth 100000 in
theorem lp_X11_count_d {X : g_X} {Qr : Option Value → g_M → g_L → Prop} (C : Cx X cX11_count 4 RX11 (some .int) 0) (hQ : Rx X Qr) {M : g_M} {L : g_L} {n e fa ac : Nat} {sz : Nat → Nat} {rr : Nat → Nat → Nat} {go : Nat → Bool} (hM : mI M n e fa ac sz rr go) {k : Int32} (hp : Qr (some (.int (nI (cn (fun d => decide (M 154 d = -1)) n)))) M L) : ∀ (kk i : Nat), i ≤ n → n < i + kk → wx X M L 55 [(0, .ref (X.1.1 + 149)), (1, .int k), (2, .int (nI (cn (fun d => decide (M 154 d = -1)) i))), (3, .int (nI i))] [] := by
  intro kk
  induction kk with
  | zero =>
    intro i h1 h2
    exact absurd h2 (by omega)
  | succ kk ih =>
    intro i hi0 hin
    refine wx_iload_n C 3 dX11_count_55 rfl rfl ?_
    refine wx_aload_n C 0 dX11_count_56 rfl rfl ?_
    refine gf_X11_75 C dX11_count_57 ?_
    refine wx_icmp_ge C 87 dX11_count_60 (by decide) (fun c60 => ?_) (fun c60 => ?_)
    · have hib : i = n := by
        have := hM.n60
        rw [hM.hn] at c60
        exact Nat.le_antisymm hi0 ((nI_leI (by omega) (by omega)).mp c60)
      refine wx_iload_n C 2 dX11_count_87 rfl rfl ?_
      refine wx_iret C hQ dX11_count_88 ?_
      rw [hib]
      exact hp
    · have hi : i < n := by
        have := hM.n60
        rw [hM.hn] at c60
        exact Nat.lt_of_not_le (fun h => c60 ((nI_leI (by omega) (by omega)).mpr h))
      have h60 := hM.n60
      refine wx_iload_n C 2 dX11_count_63 rfl rfl ?_
      refine wx_aload_n C 0 dX11_count_64 rfl rfl ?_
      refine gf_X11_32 C dX11_count_65 ?_
      refine wx_iload_n C 3 dX11_count_68 rfl rfl ?_
      refine wx_iald C 154 i (by decide) (fun _ _ => rfl) (by decide) dX11_count_69 rfl (by omega) ?_
      refine wx_iconst C (-1) dX11_count_70 (by decide) ?_
      refine wx_icmp_ne C 78 dX11_count_71 (by decide) (fun c71 => ?_) (fun c71 => ?_)
      · refine wx_iconst C 0 dX11_count_78 (by decide) ?_
        refine wx_iadd C dX11_count_79 ?_
        refine wx_istore_n C [1, 2, 0, 3] [(0, .ref (X.1.1 + 149)), (1, .int k), (2, .int ((nI (cn (fun d => decide (M 154 d = -1)) i)) + 0)), (3, .int (nI i))] dX11_count_80 rfl (by decide) rfl ?_
        refine wx_iinc C (v := (nI (i + 1))) 3 [1, 2, 3, 0] [(0, .ref (X.1.1 + 149)), (1, .int k), (2, .int ((nI (cn (fun d => decide (M 154 d = -1)) i)) + 0)), (3, .int (nI (i + 1)))] dX11_count_81 rfl (nI_1 _) (by decide) rfl ?_
        refine wx_goto C 55 dX11_count_84 (by decide) ?_
        rw [show nI (cn (fun d => decide (M 154 d = -1)) i) + 0 = nI (cn (fun d => decide (M 154 d = -1)) (i + 1)) from (by rw [Int32.add_zero, cn, if_neg (by rw [decide_eq_false c71]; decide)]; rfl)]
        exact ih (i + 1) (by omega) (by omega)
      · refine wx_iconst C 1 dX11_count_74 (by decide) ?_
        refine wx_goto C 79 dX11_count_75 (by decide) ?_
        refine wx_iadd C dX11_count_79 ?_
        refine wx_istore_n C [1, 2, 0, 3] [(0, .ref (X.1.1 + 149)), (1, .int k), (2, .int ((nI (cn (fun d => decide (M 154 d = -1)) i)) + 1)), (3, .int (nI i))] dX11_count_80 rfl (by decide) rfl ?_
        refine wx_iinc C (v := (nI (i + 1))) 3 [1, 2, 3, 0] [(0, .ref (X.1.1 + 149)), (1, .int k), (2, .int ((nI (cn (fun d => decide (M 154 d = -1)) i)) + 1)), (3, .int (nI (i + 1)))] dX11_count_81 rfl (nI_1 _) (by decide) rfl ?_
        refine wx_goto C 55 dX11_count_84 (by decide) ?_
        rw [nI_1, show cn (fun d => decide (M 154 d = -1)) i + 1 = cn (fun d => decide (M 154 d = -1)) (i + 1) from (by rw [cn, if_pos (decide_eq_true c71)])]
        exact ih (i + 1) (by omega) (by omega)
set_option maxHeartbeats 4000000 in
set_option maxRecDepth 100000 in
theorem lp_X11_count_p {X : g_X} {Qr : Option Value → g_M → g_L → Prop} (C : Cx X cX11_count 4 RX11 (some .int) 0) (hQ : Rx X Qr) {M : g_M} {L : g_L} {n e fa ac : Nat} {sz : Nat → Nat} {rr : Nat → Nat → Nat} {go : Nat → Bool} (hM : mI M n e fa ac sz rr go) {k : Int32} (hp : Qr (some (.int (nI (cn (fun p => decide (M 158 p = 0)) e)))) M L) : ∀ (kk i : Nat), i ≤ e → e < i + kk → wx X M L 91 [(0, .ref (X.1.1 + 149)), (1, .int k), (2, .int (nI (cn (fun p => decide (M 158 p = 0)) i))), (3, .int (nI i))] [] := by
  intro kk
  induction kk with
  | zero =>
    intro i h1 h2
    exact absurd h2 (by omega)
  | succ kk ih =>
    intro i hi0 hin
    refine wx_iload_n C 3 dX11_count_91 rfl rfl ?_
    refine wx_aload_n C 0 dX11_count_92 rfl rfl ?_
    refine gf_X11_82 C dX11_count_93 ?_
    refine wx_icmp_ge C 122 dX11_count_96 (by decide) (fun c96 => ?_) (fun c96 => ?_)
    · have hib : i = e := by
        have := hM.e12
        rw [hM.he] at c96
        exact Nat.le_antisymm hi0 ((nI_leI (by omega) (by omega)).mp c96)
      refine wx_iload_n C 2 dX11_count_122 rfl rfl ?_
      refine wx_iret C hQ dX11_count_123 ?_
      rw [hib]
      exact hp
    · have hi : i < e := by
        have := hM.e12
        rw [hM.he] at c96
        exact Nat.lt_of_not_le (fun h => c96 ((nI_leI (by omega) (by omega)).mpr h))
      have h12 := hM.e12
      refine wx_iload_n C 2 dX11_count_99 rfl rfl ?_
      refine wx_aload_n C 0 dX11_count_100 rfl rfl ?_
      refine gf_X11_44 C dX11_count_101 ?_
      refine wx_iload_n C 3 dX11_count_104 rfl rfl ?_
      refine wx_zald C 158 i (by decide) (fun _ _ => rfl) (by decide) dX11_count_105 rfl (by omega) ?_
      refine wx_if_eq C 113 dX11_count_106 (by decide) (fun c106 => ?_) (fun c106 => ?_)
      · refine wx_iconst C 1 dX11_count_113 (by decide) ?_
        refine wx_iadd C dX11_count_114 ?_
        refine wx_istore_n C [1, 2, 0, 3] [(0, .ref (X.1.1 + 149)), (1, .int k), (2, .int ((nI (cn (fun p => decide (M 158 p = 0)) i)) + 1)), (3, .int (nI i))] dX11_count_115 rfl (by decide) rfl ?_
        refine wx_iinc C (v := (nI (i + 1))) 3 [1, 2, 3, 0] [(0, .ref (X.1.1 + 149)), (1, .int k), (2, .int ((nI (cn (fun p => decide (M 158 p = 0)) i)) + 1)), (3, .int (nI (i + 1)))] dX11_count_116 rfl (nI_1 _) (by decide) rfl ?_
        refine wx_goto C 91 dX11_count_119 (by decide) ?_
        rw [nI_1, show cn (fun p => decide (M 158 p = 0)) i + 1 = cn (fun p => decide (M 158 p = 0)) (i + 1) from (by rw [cn, if_pos (decide_eq_true c106)])]
        exact ih (i + 1) (by omega) (by omega)
      · refine wx_iconst C 0 dX11_count_109 (by decide) ?_
        refine wx_goto C 114 dX11_count_110 (by decide) ?_
        refine wx_iadd C dX11_count_114 ?_
        refine wx_istore_n C [1, 2, 0, 3] [(0, .ref (X.1.1 + 149)), (1, .int k), (2, .int ((nI (cn (fun p => decide (M 158 p = 0)) i)) + 0)), (3, .int (nI i))] dX11_count_115 rfl (by decide) rfl ?_
        refine wx_iinc C (v := (nI (i + 1))) 3 [1, 2, 3, 0] [(0, .ref (X.1.1 + 149)), (1, .int k), (2, .int ((nI (cn (fun p => decide (M 158 p = 0)) i)) + 0)), (3, .int (nI (i + 1)))] dX11_count_116 rfl (nI_1 _) (by decide) rfl ?_
        refine wx_goto C 91 dX11_count_119 (by decide) ?_
        rw [show nI (cn (fun p => decide (M 158 p = 0)) i) + 0 = nI (cn (fun p => decide (M 158 p = 0)) (i + 1)) from (by rw [Int32.add_zero, cn, if_neg (by rw [decide_eq_false c106]; decide)]; rfl)]
        exact ih (i + 1) (by omega) (by omega)
set_option maxHeartbeats 4000000 in
set_option maxRecDepth 100000 in
theorem t_X11_count (G : g_G) (M : g_M) (L : g_L) (k : Int32) {n e fa ac : Nat} {sz : Nat → Nat} {rr : Nat → Nat → Nat} {go : Nat → Bool} (hM : mI M n e fa ac sz rr go) : mt G yX11_count (Cond.code yX11_count cX11_count 4 (some .int)) 0 [.ref (G.1 + 149), .int k] M L (qI fun v M' L' => L = L' ∧ M = M' ∧ v = (if k = 0 then nI n else if k = 1 then nI (cn (fun d => decide (M 154 d = -1)) n) else if k = 2 then nI (cn (fun p => decide (M 158 p = 0)) e) else if k = 3 then nI e else if k = 4 then M 149 2 else if k = 5 then M 149 3 else if k = 6 then M 149 4 else if k = 7 then nI ac else -1)) := by
  refine mt_of (by decide) rfl (Nat.le_of_ble_eq_true rfl) [(0, .ref (G.1 + 149)), (1, .int k)] rfl (fun X hG C hQ => ?_)
  subst hG
  refine wx_iconst C 0 dX11_count_0 (by decide) ?_
  refine wx_istore_n C [1, 2, 0] [(0, .ref (X.1.1 + 149)), (1, .int k), (2, .int 0)] dX11_count_1 rfl (by decide) rfl ?_
  refine wx_iload_n C 1 dX11_count_2 rfl rfl ?_
  by_cases s3 : k = 0 ∨ k = 1 ∨ k = 2 ∨ k = 3 ∨ k = 4 ∨ k = 5 ∨ k = 6 ∨ k = 7
  · rcases s3 with s3 | s3 | s3 | s3 | s3 | s3 | s3 | s3
    · refine wx_tin C 48 dX11_count_3 (by rw [s3]; decide) (by rw [s3]; decide) (by rw [s3]; rfl) (by decide) ?_
      refine wx_aload_n C 0 dX11_count_48 rfl rfl ?_
      refine gf_X11_75 C dX11_count_49 ?_
      refine wx_iret C hQ dX11_count_52 ?_
      refine ⟨_, rfl, rfl, rfl, ?_⟩
      rw [s3]
      first
      | exact hM.hn
      | exact hM.he
      | exact hM.hac
      | rfl
    · refine wx_tin C 53 dX11_count_3 (by rw [s3]; decide) (by rw [s3]; decide) (by rw [s3]; rfl) (by decide) ?_
      refine wx_iconst C 0 dX11_count_53 (by decide) ?_
      refine wx_istore_n C [1, 2, 3, 0] [(0, .ref (X.1.1 + 149)), (1, .int k), (2, .int 0), (3, .int 0)] dX11_count_54 rfl (by decide) rfl ?_
      exact lp_X11_count_d C hQ hM ⟨_, rfl, rfl, rfl, by rw [s3]; rfl⟩ (n + 1) 0 (by omega) (by omega)
    · refine wx_tin C 89 dX11_count_3 (by rw [s3]; decide) (by rw [s3]; decide) (by rw [s3]; rfl) (by decide) ?_
      refine wx_iconst C 0 dX11_count_89 (by decide) ?_
      refine wx_istore_n C [1, 2, 3, 0] [(0, .ref (X.1.1 + 149)), (1, .int k), (2, .int 0), (3, .int 0)] dX11_count_90 rfl (by decide) rfl ?_
      exact lp_X11_count_p C hQ hM ⟨_, rfl, rfl, rfl, by rw [s3]; rfl⟩ (e + 1) 0 (by omega) (by omega)
    · refine wx_tin C 124 dX11_count_3 (by rw [s3]; decide) (by rw [s3]; decide) (by rw [s3]; rfl) (by decide) ?_
      refine wx_aload_n C 0 dX11_count_124 rfl rfl ?_
      refine gf_X11_82 C dX11_count_125 ?_
      refine wx_iret C hQ dX11_count_128 ?_
      refine ⟨_, rfl, rfl, rfl, ?_⟩
      rw [s3]
      first
      | exact hM.hn
      | exact hM.he
      | exact hM.hac
      | rfl
    · refine wx_tin C 129 dX11_count_3 (by rw [s3]; decide) (by rw [s3]; decide) (by rw [s3]; rfl) (by decide) ?_
      refine wx_aload_n C 0 dX11_count_129 rfl rfl ?_
      refine gf_X11_7 C dX11_count_130 ?_
      refine wx_iret C hQ dX11_count_133 ?_
      refine ⟨_, rfl, rfl, rfl, ?_⟩
      rw [s3]
      first
      | exact hM.hn
      | exact hM.he
      | exact hM.hac
      | rfl
    · refine wx_tin C 134 dX11_count_3 (by rw [s3]; decide) (by rw [s3]; decide) (by rw [s3]; rfl) (by decide) ?_
      refine wx_aload_n C 0 dX11_count_134 rfl rfl ?_
      refine gf_X11_13 C dX11_count_135 ?_
      refine wx_iret C hQ dX11_count_138 ?_
      refine ⟨_, rfl, rfl, rfl, ?_⟩
      rw [s3]
      first
      | exact hM.hn
      | exact hM.he
      | exact hM.hac
      | rfl
    · refine wx_tin C 139 dX11_count_3 (by rw [s3]; decide) (by rw [s3]; decide) (by rw [s3]; rfl) (by decide) ?_
      refine wx_aload_n C 0 dX11_count_139 rfl rfl ?_
      refine gf_X11_16 C dX11_count_140 ?_
      refine wx_iret C hQ dX11_count_143 ?_
      refine ⟨_, rfl, rfl, rfl, ?_⟩
      rw [s3]
      first
      | exact hM.hn
      | exact hM.he
      | exact hM.hac
      | rfl
    · refine wx_tin C 144 dX11_count_3 (by rw [s3]; decide) (by rw [s3]; decide) (by rw [s3]; rfl) (by decide) ?_
      refine wx_aload_n C 0 dX11_count_144 rfl rfl ?_
      refine gf_X11_85 C dX11_count_145 ?_
      refine wx_iret C hQ dX11_count_148 ?_
      refine ⟨_, rfl, rfl, rfl, ?_⟩
      rw [s3]
      first
      | exact hM.hn
      | exact hM.he
      | exact hM.hac
      | rfl
  · refine wx_tout C 149 dX11_count_3 (sw_out8 s3) (by decide) ?_
    refine wx_iconst C (-1) dX11_count_149 (by decide) ?_
    refine wx_iret C hQ dX11_count_150 ?_
    refine ⟨_, rfl, rfl, rfl, ?_⟩
    rw [if_neg (fun z => s3 (Or.inl z)), if_neg (fun z => s3 (Or.inr (Or.inl z))), if_neg (fun z => s3 (Or.inr (Or.inr (Or.inl z)))), if_neg (fun z => s3 (Or.inr (Or.inr (Or.inr (Or.inl z))))), if_neg (fun z => s3 (Or.inr (Or.inr (Or.inr (Or.inr (Or.inl z)))))), if_neg (fun z => s3 (Or.inr (Or.inr (Or.inr (Or.inr (Or.inr (Or.inl z))))))), if_neg (fun z => s3 (Or.inr (Or.inr (Or.inr (Or.inr (Or.inr (Or.inr (Or.inl z)))))))), if_neg (fun z => s3 (Or.inr (Or.inr (Or.inr (Or.inr (Or.inr (Or.inr (Or.inr z))))))))]
