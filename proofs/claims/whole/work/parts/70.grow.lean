/-! ===== the constructors: a memory that grows by one cell after the other ===== -/
def yP (G : g_G) (N : Nat) (E : Nat → va_E) (H : Heap) : Prop := H.size = G.1 + N ∧ va_P G.2.1 vwCl (g_ws G.1 N E) H
theorem yP.cg {G : g_G} {N : Nat} {E F : Nat → va_E} {H : Heap} (h : yP G N E H) (e : ∀ j, j < N → E j = F j) : yP G N F H := ⟨h.1, by rw [← g_ws_cong e]; exact h.2⟩
/-- what the tables say of nest mates and of arrays of objects -/
def nst (U : State) : Prop := va_Nw (Cond.methodLinkNest RX10 13 yX7_init RX10) U ∧ va_Nw (Cond.methodLinkNest RX5 26 yX6_init RX10) U ∧ va_Nw (Cond.methodLinkNest RX9 21 yX8_init RX10) U ∧ va_Nw (Cond.methodLinkNest RX8 9 yX6_init RX10) U ∧ va_Nw (Cond.methodLinkNest RX1 17 yX0_init RX10) U ∧ va_Nw (Cond.methodLinkNest RX0 9 yX6_init RX10) U ∧ va_Nw (Cond.methodLinkNest RX10 59 yX3_init RX10) U ∧ va_Nw (Cond.methodLinkNest RX10 66 yX6_init RX10) U ∧ va_AO "NightDots$Wanderer" U ∧ va_AO "NightDots$Act" U
theorem nst.warm {s U : State} (hW : s.WarmedH U.vm) (h : nst s) : nst U := ⟨va_Nw.warmM hW h.1, va_Nw.warmM hW h.2.1, va_Nw.warmM hW h.2.2.1, va_Nw.warmM hW h.2.2.2.1, va_Nw.warmM hW h.2.2.2.2.1, va_Nw.warmM hW h.2.2.2.2.2.1, va_Nw.warmM hW h.2.2.2.2.2.2.1, va_Nw.warmM hW h.2.2.2.2.2.2.2.1, va_AO.moved hW.alike h.2.2.2.2.2.2.2.2.1, va_AO.moved hW.alike h.2.2.2.2.2.2.2.2.2⟩
theorem nst.call {U : State} (h : nst U) (g : JFrame) (mk : MethodId) (a : Array Value) : nst (U.calling g mk a) := ⟨va_Nw.same (u := U) (U := U.calling g mk a) rfl rfl h.1, va_Nw.same (u := U) (U := U.calling g mk a) rfl rfl h.2.1, va_Nw.same (u := U) (U := U.calling g mk a) rfl rfl h.2.2.1, va_Nw.same (u := U) (U := U.calling g mk a) rfl rfl h.2.2.2.1, va_Nw.same (u := U) (U := U.calling g mk a) rfl rfl h.2.2.2.2.1, va_Nw.same (u := U) (U := U.calling g mk a) rfl rfl h.2.2.2.2.2.1, va_Nw.same (u := U) (U := U.calling g mk a) rfl rfl h.2.2.2.2.2.2.1, va_Nw.same (u := U) (U := U.calling g mk a) rfl rfl h.2.2.2.2.2.2.2.1, va_AO.moved (u := U) (U := U.calling g mk a) (Vm.Alike.refl U.vm) h.2.2.2.2.2.2.2.2.1, va_AO.moved (u := U) (U := U.calling g mk a) (Vm.Alike.refl U.vm) h.2.2.2.2.2.2.2.2.2⟩
def wy (X : g_X) (N : Nat) (E : Nat → va_E) (ck co pc : Nat) (lv : List (Nat × Value)) (st : List Value) : Prop :=
  ∀ (H : Heap) (locs : List Loc) (ls : Array Slot), yP X.1 N E H → va_S (g_A X.1) (xs X).heap H locs → lv_has ls (xn X) lv → W (xp X) (xl X) (xe X) (xR X) (xs X) (xm X) (xa X) (xb X) (xh X) (xc X) H locs ck co (xQ X) (F0 (xm X) pc ls st)
/-- what a constructor knows besides: the memory begins no later than its own heap's end, the nest mates -/
def Cy (X : g_X) : Prop := X.1.1 ≤ (xs X).heap.size ∧ nst (xs X)
section WY
variable {X : g_X} {cc : ByteArray} {nL : Nat} {own : String} {ret : Option FieldType} {d : Nat} {N ck co : Nat} {E : Nat → va_E} {pc : Nat} {lv : List (Nat × Value)} {st : List Value}
theorem wy_iconst (C : Cx X cc nL own ret d) {n : Int} (v : Int32) (hd : decode cc pc = .ok (.iconst n, 1)) (hv : Int32.ofInt n = v) (k : wy X N E ck co (pc + 1) lv (.int v :: st)) : wy X N E ck co pc lv st := fun H locs ls hH hS hl => lv_iconst C.hx C.hb hd hv (k H locs ls hH hS hl)
theorem wy_bipush (C : Cx X cc nL own ret d) {n : Int} (v : Int32) (hd : decode cc pc = .ok (.bipush n, 2)) (hv : (Int8.ofInt n).toInt32 = v) (k : wy X N E ck co (pc + 2) lv (.int v :: st)) : wy X N E ck co pc lv st := fun H locs ls hH hS hl => lv_bipush C.hx C.hb hd hv (k H locs ls hH hS hl)
theorem wy_sipush (C : Cx X cc nL own ret d) {n : Int} (v : Int32) (hd : decode cc pc = .ok (.sipush n, 3)) (hv : (Int16.ofInt n).toInt32 = v) (k : wy X N E ck co (pc + 3) lv (.int v :: st)) : wy X N E ck co pc lv st := fun H locs ls hH hS hl => lv_sipush C.hx C.hb hd hv (k H locs ls hH hS hl)
theorem wy_iload_n (C : Cx X cc nL own ret d) {k : Fin 4} {i : Nat} {x : Int32} (q : Nat) (hd : decode cc pc = .ok (.iload_n k, 1)) (hi : (k : Nat) = i) (hl : lv[q]? = some (i, .int x)) (kk : wy X N E ck co (pc + 1) lv (.int x :: st)) : wy X N E ck co pc lv st := fun H locs ls hH hS h => lv_iload_n C.hx C.hb hd hi (lv_at h q hl) (kk H locs ls hH hS h)
theorem wy_aload_n (C : Cx X cc nL own ret d) {k : Fin 4} {i : Nat} {x : Nat} (q : Nat) (hd : decode cc pc = .ok (.aload_n k, 1)) (hi : (k : Nat) = i) (hl : lv[q]? = some (i, .ref x)) (kk : wy X N E ck co (pc + 1) lv (.ref x :: st)) : wy X N E ck co pc lv st := fun H locs ls hH hS h => lv_aload_n C.hx C.hb hd hi (lv_at h q hl) (kk H locs ls hH hS h)
theorem wy_istore_n (C : Cx X cc nL own ret d) {k : Fin 4} {i : Nat} {x : Int32} (ks : List Nat) (lv' : List (Nat × Value)) (hd : decode cc pc = .ok (.istore_n k, 1)) (hi : (k : Nat) = i) (hn : i < nL) (hl : lv_pick (lx1 lv i (.int x)) ks = lv') (kk : wy X N E ck co (pc + 1) lv' st) : wy X N E ck co pc lv (.int x :: st) := fun H locs ls hH hS h => lv_istore_n C.hx C.hb hd hi h (by rw [C.hn]; exact hn) rfl (fun ls' h' => kk H locs ls' hH hS (lv_sub h' ks hl))
theorem wy_astore_n (C : Cx X cc nL own ret d) {k : Fin 4} {i : Nat} {x : Nat} (ks : List Nat) (lv' : List (Nat × Value)) (hd : decode cc pc = .ok (.astore_n k, 1)) (hi : (k : Nat) = i) (hn : i < nL) (hl : lv_pick (lx1 lv i (.ref x)) ks = lv') (kk : wy X N E ck co (pc + 1) lv' st) : wy X N E ck co pc lv (.ref x :: st) := fun H locs ls hH hS h => lv_astore_n C.hx C.hb hd hi h (by rw [C.hn]; exact hn) rfl (fun ls' h' => kk H locs ls' hH hS (lv_sub h' ks hl))
theorem wy_iinc (C : Cx X cc nL own ret d) {i : Nat} {n : Int} {x v : Int32} (q : Nat) (ks : List Nat) (lv' : List (Nat × Value)) (hd : decode cc pc = .ok (.iinc i n, 3)) (hq : lv[q]? = some (i, .int x)) (hv : x + Int32.ofInt n = v) (hn : i < nL) (hl : lv_pick (lx1 lv i (.int v)) ks = lv') (kk : wy X N E ck co (pc + 3) lv' st) : wy X N E ck co pc lv st := fun H locs ls hH hS h => lv_iinc C.hx C.hb hd h hq hv (by rw [C.hn]; exact hn) rfl (fun ls' h' => kk H locs ls' hH hS (lv_sub h' ks hl))
theorem wy_dup (C : Cx X cc nL own ret d) {v : Value} (hd : decode cc pc = .ok (.dup, 1)) (hv : v.category = 1) (k : wy X N E ck co (pc + 1) lv (v :: v :: st)) : wy X N E ck co pc lv (v :: st) := fun H locs ls hH hS h => lv_dup C.hx C.hb hd hv (k H locs ls hH hS h)
theorem wy_goto (C : Cx X cc nL own ret d) {off : Int} (tgt : Nat) (hd : decode cc pc = .ok (.goto off, 3)) (ht : (pc : Int) + off = (tgt : Int)) (k : wy X N E ck co tgt lv st) : wy X N E ck co pc lv st := fun H locs ls hH hS h => lv_goto C.hx C.hb hd ht (k H locs ls hH hS h)
theorem wy_icmp_ge (C : Cx X cc nL own ret d) {x y : Int32} {off : Int} (tgt : Nat) (hd : decode cc pc = .ok (.if_icmp .ge off, 3)) (ht : (pc : Int) + off = (tgt : Int)) (kt : y ≤ x → wy X N E ck co tgt lv st) (kf : ¬ y ≤ x → wy X N E ck co (pc + 3) lv st) : wy X N E ck co pc lv (.int y :: .int x :: st) := fun H locs ls hH hS h => lv_icmp_ge C.hx C.hb hd ht (fun q => kt q H locs ls hH hS h) (fun q => kf q H locs ls hH hS h)
theorem wy_cg {F : Nat → va_E} (e : ∀ j, j < N → E j = F j) (kk : wy X N F ck co pc lv st) : wy X N E ck co pc lv st := fun H locs ls hH hS hl => kk H locs ls (hH.cg e) hS hl
theorem wy_sub {lv' : List (Nat × Value)} (ks : List Nat) (h : lv_pick lv ks = lv') (k : wy X N E ck co pc lv' st) : wy X N E ck co pc lv st := fun H locs ls hH hS hl => k H locs ls hH hS (lv_sub hl ks h)
theorem wy_obj (C : Cx X cc nL own ret d) {index a : Nat} (hw : Cond.methodLink own index objectInit ∈ g_tb) (hd1 : 1 ≤ d) (hcat : (st.map fun v => v.category).sum ≤ 8) (hd : decode cc pc = .ok (.invokespecial index, 3)) (kk : wy X N E ck co (pc + 3) lv st) : wy X N E ck co pc lv (.ref a :: st) := fun H locs ls hH hS h =>
  W.objInit C.hx C.hb C.ho (C.ht _ hw) (C.ht _ w1_21) (C.ht _ w1_22) (g := F0 (xm X) pc ls (.ref a :: st)) rfl (by show ls.size = _; rw [C.hm, h.1, C.hn]) rfl hd (Nat.le_trans hd1 C.hd.1) (by have h1 := lv_room (m := xm X) (pc := pc) (ls := ls) (rest := .ref a :: st) hcat; have h2 := C.hd.2; omega) (kk H locs ls hH hS h)
theorem wy_get (C : Cx X cc nL own ret d) (k j : Nat) {ci Nf index : Nat} {fs : List Value} {ref Cn : String} {T : u_T} {v : Value} (hk : k < N) (he : E k = .inr (ci, fs)) (hc : vwCl[ci]? = some (Cn, T, Nf)) (hin : ∀ w ∈ u_ws Cn T Nf, w ∈ g_tb) (hj : j < Nf) (hw : Cond.fieldLink own index ref (T j).2.1 (T j).2.2.1 ∈ g_tb) (href : ref = (T j).1) (hv : fs[j]? = some v) (hd : decode cc pc = .ok (.getfield index, 3)) (kk : wy X N E ck co (pc + 3) lv (v :: st)) : wy X N E ck co pc lv (.ref (X.1.1 + k) :: st) :=
  fun H locs ls hH hS h => va_get (D := X.1.2.1) C.hx C.hb C.ht hin C.ho C.hK hH.2 k (by rw [g_ws_at hk, he]) hc j hj (C.ht _ hw) (by rw [href]; exact fun _ h => h) hv hd (kk H locs ls hH hS h)
/-- a cell more -/
theorem yP.push {G : g_G} {H H1 : Heap} (h : yP G N E H) {e : va_E} (z : H1.size = G.1 + N + 1) (o : ∀ q, q < G.1 + N → H1[q]? = H[q]?) (he : va_at G.2.1 vwCl (G.1 + N, e) H1) {F : Nat → va_E} (hF : ∀ j, j < N + 1 → va_up E N e j = F j) : yP G (N + 1) F H1 := by
  refine yP.cg (E := va_up E N e) ⟨by rw [z]; omega, ?_⟩ hF
  rw [← g_ws_push]
  refine va_P.app (h.2.kept (fun k q hq => ?_)) (fun k q hq => ?_)
  · obtain ⟨hk, rfl⟩ := g_ws_inv hq
    exact o _ (by dsimp only; omega)
  · have hz : k < 1 := (List.getElem?_eq_some_iff.mp hq).1
    rw [show k = 0 by omega] at hq
    cases hq
    exact he
theorem yS {H H1 : Heap} {locs : List Loc} {H0 : Heap} {A : Nat → Prop} (hS : va_S A H0 H locs) {n : Nat} (hn : H.size = n) (z : H1.size = n + 1) (o : ∀ q, q < n → H1[q]? = H[q]?) : va_S A H0 H1 locs := by
  subst hn
  exact ⟨Nat.le_trans hS.1 (by omega), fun x h1 h2 => (o x (Nat.lt_of_lt_of_le h1 hS.1)).trans (hS.2.1 x h1 h2), hS.2.2⟩
theorem wy_newI (C : Cx X cc nL own ret d) {n : Int32} (n' : Nat) (F : Nat → va_E) (hn0 : ¬ n < 0) (hN : n.toNatClampNeg = n') (hb : n' * 4 ≤ 536870912) (hk : ck + 1 ≤ xk X) (ho : co + n' ≤ xo X) (hd : decode cc pc = .ok (.newarray .int, 2)) (hF : ∀ j, j < N + 1 → va_up E N (g_ai X.1 n' (fun _ => 0)) j = F j) (kk : wy X (N + 1) F (ck + 1) (co + n') (pc + 2) lv (.ref (X.1.1 + N) :: st)) : wy X N E ck co pc lv (.int n :: st) := by
  intro H locs ls hH hS hl
  refine va_newaK (atype := .int) C.hx C.hb (C.ht _ w1_61) rfl hd rfl hn0 hN hb (Nat.le_trans hk C.hc.1) (Nat.le_trans ho C.hc.2) hH.1 (fun H1 cA e1 z1 o1 _ hNm => ?_)
  have hcA : cA = X.1.2.2 0 := Option.some.inj (hNm.symm.trans (C.hK.2 0 (X.1.2.2 0, .int) rfl).2)
  subst hcA
  exact kk H1 locs ls (hH.push (e := g_ai X.1 n' (fun _ => 0)) z1 o1 e1 hF) (yS hS hH.1 z1 o1) hl
theorem wy_newZ (C : Cx X cc nL own ret d) {n : Int32} (n' : Nat) (F : Nat → va_E) (hn0 : ¬ n < 0) (hN : n.toNatClampNeg = n') (hb : n' * 1 ≤ 536870912) (hk : ck + 1 ≤ xk X) (ho : co + n' ≤ xo X) (hd : decode cc pc = .ok (.newarray .boolean, 2)) (hF : ∀ j, j < N + 1 → va_up E N (g_az X.1 n' (fun _ => 0)) j = F j) (kk : wy X (N + 1) F (ck + 1) (co + n') (pc + 2) lv (.ref (X.1.1 + N) :: st)) : wy X N E ck co pc lv (.int n :: st) := by
  intro H locs ls hH hS hl
  refine va_newaK (atype := .boolean) C.hx C.hb (C.ht _ w4_66) rfl hd rfl hn0 hN hb (Nat.le_trans hk C.hc.1) (Nat.le_trans ho C.hc.2) hH.1 (fun H1 cA e1 z1 o1 _ hNm => ?_)
  have hcA : cA = X.1.2.2 1 := Option.some.inj (hNm.symm.trans (C.hK.2 1 (X.1.2.2 1, .boolean) rfl).2)
  subst hcA
  exact kk H1 locs ls (hH.push (e := g_az X.1 n' (fun _ => 0)) z1 o1 e1 hF) (yS hS hH.1 z1 o1) hl
theorem wy_newA (C : Cx X cc nL own ret d) {Cn : String} {index : Nat} (t : Nat) (ht : (g_tys X.1)[t]? = some (X.1.2.2 t, .object Cn)) (hao : va_AO Cn (xs X)) (hw : Cond.classLink own index Cn ∈ g_tb) {n : Int32} (n' : Nat) (f : Nat → Option Nat) (hf : ∀ j, j < n' → f j = none) (F : Nat → va_E) (hn0 : ¬ n < 0) (hN : n.toNatClampNeg = n') (hb : n' * 4 ≤ 536870912) (hk : ck + 1 ≤ xk X) (ho : co + n' ≤ xo X) (hd : decode cc pc = .ok (.anewarray index, 3)) (hF : ∀ j, j < N + 1 → va_up E N (.inl (X.1.2.2 t, n', .inr (.inr (.inr (.inr f))))) j = F j) (kk : wy X (N + 1) F (ck + 1) (co + n') (pc + 3) lv (.ref (X.1.1 + N) :: st)) : wy X N E ck co pc lv (.int n :: st) := by
  intro H locs ls hH hS hl
  subst hN
  refine W.anew C.hx C.hb C.ho (C.ht _ hw) (va_AO.use hao) (g := F0 (xm X) pc ls (.int n :: st)) rfl hd rfl hn0 hb (Nat.le_trans hk C.hc.1) (Nat.le_trans ho C.hc.2) (fun cA kA comp f1 f2 f3 f4 => ?_)
  obtain ⟨_, _, _, _, _, hNm⟩ := (C.hK.2 t _ ht).2
  have hcA : cA = X.1.2.2 t := Option.some.inj (f1.symm.trans hNm)
  subst hcA
  have z1 : (H.push ({ cls := X.1.2.2 t, slots := Array.replicate n.toNatClampNeg .null, vm := .none } : Cell)).size = X.1.1 + N + 1 := by rw [Array.size_push, hH.1]
  have o1 : ∀ q, q < X.1.1 + N → (H.push ({ cls := X.1.2.2 t, slots := Array.replicate n.toNatClampNeg .null, vm := .none } : Cell))[q]? = H[q]? := fun q hq => by rw [Array.getElem?_push, if_neg (by rw [hH.1]; omega)]
  have e1 : (H.push ({ cls := X.1.2.2 t, slots := Array.replicate n.toNatClampNeg .null, vm := .none } : Cell))[X.1.1 + N]? = some (vp_cell (X.1.2.2 t) (n.toNatClampNeg, .inr (.inr (.inr (.inr f))))) := by
    rw [← hH.1, Array.getElem?_push_size, vp_cell_q]
    have hg : arrV (X.1.2.2 t) n.toNatClampNeg (fun j => va_rf (f j)) = arrV (X.1.2.2 t) n.toNatClampNeg (fun _ => .null) := by
      unfold arrV
      congr 1
      apply Array.ext
      · simp
      · intro i h1 h2
        simp at h1
        simp [hf i h1, va_rf]
    rw [hg, ← arrV_new]
  have q := kk _ locs ls (hH.push (e := .inl (X.1.2.2 t, n.toNatClampNeg, .inr (.inr (.inr (.inr f))))) z1 o1 e1 hF) (yS hS hH.1 z1 o1) hl
  rw [← hH.1] at q
  exact q
theorem wy_new (C : Cx X cc nL own ret d) (ci : Nat) {index Nf : Nat} {Cn : String} {T : u_T} {fs : List Value} (ty : Nat → FieldType) (hc : vwCl[ci]? = some (Cn, T, Nf)) (hin : ∀ w ∈ u_ws Cn T Nf, w ∈ g_tb) (hty : ∀ k, k < Nf → parseFieldDescriptor (T k).2.2.1 = some (ty k)) (w1 : Cond.classLink own index Cn ∈ g_tb) (w2 : Cond.instantiable Cn Nf ∈ g_tb) (w3 : Cond.initialized Cn ∈ g_tb) (hfs : ∀ j, j < Nf → defaultValue (ty j) = vp_V fs j) (F : Nat → va_E) (hk : ck + 1 ≤ xk X) (ho : co + Nf ≤ xo X) (hd : decode cc pc = .ok (.new index, 3)) (hF : ∀ j, j < N + 1 → va_up E N (.inr (ci, fs)) j = F j) (kk : wy X (N + 1) F (ck + 1) (co + Nf) (pc + 3) lv (.ref (X.1.1 + N) :: st)) : wy X N E ck co pc lv st := by
  intro H locs ls hH hS hl
  have hKn := C.hK.1 ci _ hc
  refine W.newcK C.hx C.hb C.ho (C.ht _ w1) (C.ht _ w2) (C.ht _ w3) (g := F0 (xm X) pc ls st) rfl hd (Nat.le_trans hk C.hc.1) (Nat.le_trans ho C.hc.2) hKn.2.1 hH.1 (fun H1 kC hkC e1 z1 o1 => ?_)
  exact kk H1 locs ls (hH.push (e := .inr (ci, fs)) z1 o1 ⟨_, hc, (u_born ty C.ht hin hKn hkC e1 hty).to hfs⟩ hF) (yS hS hH.1 z1 o1) hl
/-- a cell changes -/
theorem yP.set {G : g_G} {H H1 : Heap} (h : yP G N E H) {k : Nat} (hk : k < N) {e : va_E} (z : H1.size = H.size) (o : ∀ q, q ≠ G.1 + k → H1[q]? = H[q]?) (he : va_at G.2.1 vwCl (G.1 + k, e) H1) {F : Nat → va_E} (hF : ∀ j, j < N → va_up E k e j = F j) : yP G N F H1 := by
  refine yP.cg (E := va_up E k e) ⟨by rw [z]; exact h.1, ?_⟩ hF
  have hs := h.2.set (g_ws_D (A := fun _ => True) (fun _ _ => trivial)) (g_ws_at hk) he o
  rw [g_ws_set] at hs
  exact hs
theorem wy_putF (C : Cx X cc nL own ret d) (hi : (xh X).name = "<init>") (k j : Nat) {ci Nf index : Nat} {fs : List Value} {ref Cn : String} {T : u_T} {v : Value} {ty : FieldType} (ty0 : Nat → FieldType) (F : Nat → va_E) (hk : k < N) (he : E k = .inr (ci, fs)) (hc : vwCl[ci]? = some (Cn, T, Nf)) (hin : ∀ w ∈ u_ws Cn T Nf, w ∈ g_tb) (hty : ∀ k, k < Nf → parseFieldDescriptor (T k).2.2.1 = some (ty0 k)) (hnm : ∀ a, a < Nf → ∀ b, b < Nf → a ≠ b → (T a).2.1 ≠ (T b).2.1) (hj : j < Nf) (hw : Cond.fieldLink own index ref (T j).2.1 (T j).2.2.1 ∈ g_tb) (href : ref = (T j).1) (hfin : (T j).2.2.2 = true) (hdecl : (T j).1 = own) (hpd : parseFieldDescriptor (T j).2.2.1 = some ty) (hn : narrow ty v = v) (hfit : fits ty v = true) (hl : j < fs.length) (hd : decode cc pc = .ok (.putfield index, 3)) (hF : ∀ i, i < N → va_up E k (.inr (ci, fs.set j v)) i = F i) (kk : wy X N F ck co (pc + 3) lv st) : wy X N E ck co pc lv (v :: .ref (X.1.1 + k) :: st) := by
  intro H locs ls hH hS h
  have hcell : (g_ws X.1.1 N E)[k]? = some (X.1.1 + k, .inr (ci, fs)) := by rw [g_ws_at hk, he]
  have hap := va_apart (own := own) C.ht hin ty0 hty hnm C.hK hc
  obtain ⟨r, h1, cell, q1, q2, q3, q4⟩ := hH.2 k _ hcell
  obtain rfl : r = (Cn, T, Nf) := Option.some.inj (h1.symm.trans hc)
  obtain ⟨hSl, hfc, kC, hkC, hkind⟩ := C.hK.1 ci _ hc
  obtain ⟨cf, kf, fi, f, hfd, hsl⟩ := hSl j hj
  have hlay := C.ht _ (hin _ (u_in_lay hj))
  unfold u_lay at hlay
  rw [if_pos hfin] at hlay
  have hcf : (xm X).cls = cf := by
    obtain ⟨_, _, c1, _, _, _, -, -, hf1, -, -, -, hown1, -⟩ := Cond.laysFinal_spec hlay
    have e1 := hfd.symm.trans hf1
    simp at e1
    rw [hdecl] at hown1
    rw [e1.1]
    exact Option.some.inj (C.ho.symm.trans hown1)
  have hst := (u_facts hfc hkC (u_lays C.ht hin hj) hfd).1
  have hf6 := u_fits hfc hkC hkind (Or.inr hlay) hfd hpd hn hfit
  refine W.putFinK C.hx C.hb C.ho (C.ht _ hw) (by rw [href]; exact hfd) hst hcf hi (by rw [q2]; exact hf6) q1 q3 (by rw [hsl]; exact k2_hasslot (q4 j hj)) (g := F0 (xm X) pc ls (v :: .ref (X.1.1 + k) :: st)) rfl rfl hd (fun H1 e1 e2 e3 => ?_)
  rw [hsl] at e1 ⊢
  exact kk H1 _ ls (hH.set (e := .inr (ci, fs.set j v)) hk e2 e3 ⟨_, hc, t_OB.to (V := updV (vp_V fs) j v) ⟨_, e1, q2, q3, t_set q4 hap hj v⟩ (fun i _ => vp_updV_set hl v i)⟩ hF) (hS.put e2 e3 (show X.1.1 ≤ X.1.1 + k by omega)) h
theorem wy_put (C : Cx X cc nL own ret d) (k j : Nat) {ci Nf index : Nat} {fs : List Value} {ref Cn : String} {T : u_T} {v : Value} {ty : FieldType} (ty0 : Nat → FieldType) (F : Nat → va_E) (hk : k < N) (he : E k = .inr (ci, fs)) (hc : vwCl[ci]? = some (Cn, T, Nf)) (hin : ∀ w ∈ u_ws Cn T Nf, w ∈ g_tb) (hty : ∀ k, k < Nf → parseFieldDescriptor (T k).2.2.1 = some (ty0 k)) (hnm : ∀ a, a < Nf → ∀ b, b < Nf → a ≠ b → (T a).2.1 ≠ (T b).2.1) (hj : j < Nf) (hw : Cond.fieldLink own index ref (T j).2.1 (T j).2.2.1 ∈ g_tb) (href : ref = (T j).1) (hfin : (T j).2.2.2 = false) (hpd : parseFieldDescriptor (T j).2.2.1 = some ty) (hn : narrow ty v = v) (hfit : fits ty v = true) (hl : j < fs.length) (hd : decode cc pc = .ok (.putfield index, 3)) (hF : ∀ i, i < N → va_up E k (.inr (ci, fs.set j v)) i = F i) (kk : wy X N F ck co (pc + 3) lv st) : wy X N E ck co pc lv (v :: .ref (X.1.1 + k) :: st) := by
  intro H locs ls hH hS h
  have hcell : (g_ws X.1.1 N E)[k]? = some (X.1.1 + k, .inr (ci, fs)) := by rw [g_ws_at hk, he]
  have hap := va_apart (own := own) C.ht hin ty0 hty hnm C.hK hc
  obtain ⟨r, h1, cell, q1, q2, q3, q4⟩ := hH.2 k _ hcell
  obtain rfl : r = (Cn, T, Nf) := Option.some.inj (h1.symm.trans hc)
  obtain ⟨hSl, hfc, kC, hkC, hkind⟩ := C.hK.1 ci _ hc
  obtain ⟨cf, kf, fi, f, hfd, hsl⟩ := hSl j hj
  have hlay := C.ht _ (hin _ (u_in_lay hj))
  unfold u_lay at hlay
  rw [if_neg (by rw [hfin]; decide)] at hlay
  have hst := (u_facts hfc hkC (u_lays C.ht hin hj) hfd).1
  have hf6 := u_store hfc hkC hkind hlay hfd hpd hn hfit
  refine W.putK C.hx C.hb (f := f) ⟨C.ho, C.ht _ hw, ⟨_, _, _, by rw [href]; exact hfd⟩, hst⟩ (by rw [q2]; exact hf6) q1 q3 (by rw [hsl]; exact k2_hasslot (q4 j hj)) (g := F0 (xm X) pc ls (v :: .ref (X.1.1 + k) :: st)) rfl rfl hd (fun H1 e1 e2 e3 => ?_)
  rw [hsl] at e1 ⊢
  exact kk H1 _ ls (hH.set (e := .inr (ci, fs.set j v)) hk e2 e3 ⟨_, hc, t_OB.to (V := updV (vp_V fs) j v) ⟨_, e1, q2, q3, t_set q4 hap hj v⟩ (fun i _ => vp_updV_set hl v i)⟩ hF) (hS.put e2 e3 (show X.1.1 ≤ X.1.1 + k by omega)) h
theorem wy_ast (C : Cx X cc nL own ret d) (k t kv ci : Nat) {r : vw_C} {n : Nat} {vs : List Value} {f : Nat → Option Nat} (i : Nat) {x : Int32} (F : Nat → va_E) (hk : k < N) (he : E k = .inl (X.1.2.2 t, n, .inr (.inr (.inr (.inr f))))) (ht : (g_tys X.1)[t]? = some (X.1.2.2 t, .object r.1)) (hkv : kv < N) (hev : E kv = .inr (ci, vs)) (hc : vwCl[ci]? = some r) (hx : x = nI i) (hi : i < n) (hn : n < 2 ^ 31) (hd : decode cc pc = .ok (.aastore, 1)) (hF : ∀ j, j < N → va_up E k (.inl (X.1.2.2 t, n, .inr (.inr (.inr (.inr (va_up f i (some (X.1.1 + kv)))))))) j = F j) (kk : wy X N F ck co (pc + 1) lv st) : wy X N E ck co pc lv (.ref (X.1.1 + kv) :: .int x :: .ref (X.1.1 + k) :: st) := by
  intro H locs ls hH hS h
  have hcl : x.toNatClampNeg = i := by rw [hx, nI_clamp (by omega)]
  have h0 : ¬ x < 0 := by
    rw [hx, i_lt, nI_toInt (by omega), show (0 : Int32).toInt = 0 from rfl]
    omega
  have ha : H[X.1.1 + k]? = some (vp_cell (X.1.2.2 t) (n, .inr (.inr (.inr (.inr f))))) := hH.2 k (X.1.1 + k, .inl (X.1.2.2 t, n, .inr (.inr (.inr (.inr f))))) (by rw [g_ws_at hk, he])
  obtain ⟨r1, hr1, cv, g1, g2, g3, -⟩ := hH.2 kv (X.1.1 + kv, .inr (ci, vs)) (by rw [g_ws_at hkv, hev])
  have hcls := (C.hK.1 ci r hc).2
  obtain ⟨kA, comp, k1, k2, k3, -⟩ := (C.hK.2 t _ ht).2
  have hcomp : comp = X.1.2.1.1 ci := Option.some.inj (k3.symm.trans hcls.1)
  subst hcomp
  obtain ⟨kC, hkC, -⟩ := hcls.2
  refine W.aast C.hx C.hb ha (fun q h => by cases h) (fun h => by cases h) k1 k2 rfl hkC ⟨h0, by show _ < (arrV _ _ _).slots.size; rw [arrV_size, hcl]; exact hi⟩ g1 (fun q h => by rw [g3] at h; cases h) (by rw [g2]; exact hkC) (by rw [g2]; exact va_assign hcls) (g := F0 (xm X) pc ls (.ref (X.1.1 + kv) :: .int x :: .ref (X.1.1 + k) :: st)) rfl rfl hd (fun H1 e z oq => ?_)
  refine kk H1 _ ls (hH.set hk z oq ?_ hF) (hS.put z oq (show X.1.1 ≤ X.1.1 + k by omega)) h
  show H1[X.1.1 + k]? = some (vp_cell _ _)
  rw [e, hcl, vp_cell_q, vp_cell_q, arrV_store]
  congr 2
  funext q
  by_cases hq : q = i
  · subst hq
    simp [updV, va_up, va_rf]
  · simp [updV, va_up, hq]
end WY
/-! a constructor's contract -/
def ykQ (G : g_G) (N : Nat) (E : Nat → va_E) : Array Value → State → Outcome → State → Prop := fun _ st oc t => (oc = .returned none ∧ yP G N E t.heap ∧ va_K G.2.1 vwCl (g_tys G) t) ∧ va_F (g_A G) st t
def ykP (G : g_G) (N : Nat) (E : Nat → va_E) (U : State) : Prop := yP G N E U.heap ∧ va_K G.2.1 vwCl (g_tys G) U ∧ nst U
def rmk (d mc ms : Nat) : Room := { frames := d, cells := mc, slots := ms, locals := 40 * d }
def mk (G : g_G) (y : MethodName) (cd : Cond) (d mc ms : Nat) (av : List Value) (N : Nat) (E : Nat → va_E) (N1 : Nat) (E1 : Nat → va_E) : Prop :=
  ∀ l : Launch, Met l y (cd :: g_tb) (rmk d mc ms) (va_Pc av (ykP G N E)) (ykQ G N1 E1) mc ms (g_A G)
theorem mk_blind {G : g_G} {av : List Value} {N : Nat} {E : Nat → va_E} : FrameBlind (va_Pc av (ykP G N E)) := fun a U g mk q => by
  obtain ⟨q0, qP, qK, qN⟩ := q
  exact ⟨q0, qP, va_K.moved (u := U) (U := U.calling g mk a) (Vm.Alike.refl U.vm) qK, qN.call g mk a⟩
def Ry (X : g_X) (N : Nat) (E : Nat → va_E) : Prop := xQ X = MQ (xb X) (ykQ X.1 N E) (xa X) (xs X) (xk X) (xo X) (g_A X.1)
theorem mk_of {G : g_G} {y : MethodName} {cc : ByteArray} {maxL d mc ms : Nat} {av : List Value} {N N1 : Nat} {E E1 : Nat → va_E} {own : String} (hy : plainName y.cls = true) (hown : y.cls = own) (hin : y.name = "<init>") (hn : (lg_sl av).length ≤ maxL) (lv : List (Nat × Value)) (hlv : lv_args 0 av = lv) (body : ∀ X : g_X, X.1 = G → xk X = mc → xo X = ms → Cx X cc maxL own none d → Cy X → (xh X).name = "<init>" → Ry X N1 E1 → wy X N E 0 0 0 lv []) : mk G y (.code y cc maxL none) d mc ms av N E N1 E1 := by
  intro l
  refine Met.ofW (cc := cc) (maxL := maxL) (ret := none) hy rfl ?_
  intro p e s m args below meth c s₁ B hml hv
  obtain ⟨rfl, hH, hK, hN⟩ := hv
  have hts := atoms_spec (ws := Cond.code y cc maxL none :: g_tb) B.pre
  have hl := lv_entry av (n := maxL) hn
  rw [lg_entry_eq]
  rw [hlv] at hl
  have hnm : meth.name = "<init>" := by rw [← hin]; exact (name_of_methodNamed B.named B.method).1
  exact body (G, p, l, e, rmk d mc ms, s, m, av.toArray, below, meth, c, mc, ms, MQ below (ykQ G N1 E1) av.toArray s mc ms (g_A G), maxL) rfl rfl rfl ⟨B.exec, B.bytes, hml, rfl, by rw [← hown]; exact findClass_of_methodNamed B.named, fun w hw => hts w (List.mem_cons_of_mem _ hw), hK, B.returns, B.notSynchronized, ⟨Nat.le_refl _, Nat.le_refl _⟩, Nat.le_refl _, Nat.le_refl _⟩ ⟨by show G.1 ≤ s.heap.size; rw [hH.1]; omega, hN⟩ hnm rfl s.heap [] _ hH va_S.rf hl
section WZ
variable {X : g_X} {cc : ByteArray} {nL : Nat} {own : String} {ret : Option FieldType} {d : Nat} {N ck co : Nat} {E : Nat → va_E} {pc : Nat} {lv : List (Nat × Value)} {st : List Value}
theorem wy_ret {F : Nat → va_E} (C : Cx X cc nL own none d) (hQ : Ry X N F) (hd : decode cc pc = .ok (.return_, 1)) (h1 : ck ≤ xk X) (h2 : co ≤ xo X) (hF : ∀ j, j < N → E j = F j) : wy X N E ck co pc lv [] := fun H locs ls hH hS h => by
  rw [hQ]
  refine W.widen h1 h2 ?_
  exact W.vret C.hx C.hb C.hr (fun t ht hW => ⟨⟨rfl, by rw [ht]; exact hH.cg hF, va_K.moved hW.alike C.hK⟩, hS.F ht⟩) hS.2.2 hd C.hlk
theorem wy_run {rest : List Value} {av : Array Value} {N1 mc ms : Nat} {E1 : Nat → va_E} (hr : ∀ (H : Heap) (locs : List Loc) (ls : Array Slot), yP X.1 N E H → lv_has ls (xn X) lv → va_Run (xp X) (xl X) (xe X) (xR X) (xs X) (xm X) (xa X) (xb X) (xh X) (xc X) H locs ck co mc ms (F0 (xm X) pc ls st) rest (ykQ X.1 N1 E1 av) (g_A X.1)) (kk : wy X N1 E1 (ck + mc) (co + ms) (pc + 3) lv rest) : wy X N E ck co pc lv st := by
  intro H locs ls hH hS hl T hT St
  obtain ⟨v, st₀, t, T', Lc, h0, X', hL, e1, e2, ⟨⟨hv, hH1, hK1⟩, hz, hk⟩, stp⟩ := hr H locs ls hH hl T hT St
  cases hv
  rw [h0] at hz hk
  obtain ⟨t2, a1, b1⟩ := kk T'.heap (locs ++ Lc) ls (by rw [e1]; exact hH1)
    ⟨Nat.le_trans hS.1 (by rw [e1]; exact hz), fun q h1 h2 => by rw [e1, hk q (Nat.lt_of_lt_of_le h1 hS.1) h2]; exact hS.2.1 q h1 h2, fun q hq => by
      rcases List.mem_append.mp hq with h | h
      · exact hS.2.2 q h
      · exact hL q h⟩ hl T' rfl X'
  exact ⟨t2, stp t2 a1, b1⟩
theorem wy_init (C : Cx X cc nL own ret d) (Y : Cy X) {k index n maxL dC mc ms N1 : Nat} {E1 : Nat → va_E} {y : MethodName} {bytes : ByteArray} {As rest : List Value} (hM : mk X.1 y (.code y bytes maxL none) dC mc ms (.ref (X.1.1 + k) :: As) N E N1 E1) (w1 : Cond.methodLink own index y ∈ g_tb) (w2 : Cond.instanceMethod y ∈ g_tb) (w4 : Cond.initialized y.cls ∈ g_tb) (w5 : Cond.code y bytes maxL none ∈ g_tb) (hy : y.cls ≠ "java/lang/invoke/MethodHandle" ∧ y.cls ≠ "java/lang/invoke/VarHandle" ∧ (parseMethodDescriptor y.desc).map (fun d => d.parameters.length) = some n) (hyi : y.name = "<init>") (hml : maxL ≤ 21) (hdep : dC + 1 ≤ d) (hn : As.length = n) (hst : st = As.reverse ++ .ref (X.1.1 + k) :: rest) (hcat : (rest.map fun v => v.category).sum ≤ 8) (hk : ck + mc ≤ xk X) (ho : co + ms ≤ xo X) (hd : decode cc pc = .ok (.invokespecial index, 3)) (kk : wy X N1 E1 (ck + mc) (co + ms) (pc + 3) lv rest) : wy X N E ck co pc lv st := by
  refine wy_run (av := (Value.ref (X.1.1 + k) :: As).toArray) (fun H locs ls hH hl => ?_) kk
  have hr : (rmk dC mc ms).frames + 1 ≤ (xR X).frames ∧ 8 + (maxL + 11) + (rmk dC mc ms).locals ≤ (xR X).locals := by
    have := C.hd
    simp only [rmk]
    omega
  exact va_runI (bytes := bytes) (maxL := maxL) (n := n) (As := As) (rest := rest) ⟨C.hx, C.hb, C.hm, C.ho, C.ht⟩ (hM (xl X)) ⟨callB_of n C.ht (g_ws_good w5) rfl rfl rfl (C.ht _ w4) (C.ht _ w1) hy hr, hyi, C.ht _ w2⟩ ⟨mk_blind, fun U hU hW => ⟨rfl, by rw [hU]; exact hH, va_K.moved hW.alike C.hK, Y.2.warm hW⟩⟩ rfl hn (by rw [show (F0 (xm X) pc ls st).locals = ls from rfl, hl.1]; exact C.hn) hst (lv_room hcat) hd ⟨Nat.le_trans hk C.hc.1, Nat.le_trans ho C.hc.2⟩
theorem wy_initN (C : Cx X cc nL own ret d) (Y : Cy X) {k index n maxL dC mc ms N1 : Nat} {E1 : Nat → va_E} {y : MethodName} {bytes : ByteArray} {As rest : List Value} (hM : mk X.1 y (.code y bytes maxL none) dC mc ms (.ref (X.1.1 + k) :: As) N E N1 E1) (w1 : va_Nw (Cond.methodLinkNest own index y RX10) (xs X)) (w2 : Cond.instanceMethod y ∈ g_tb) (w4 : Cond.initialized y.cls ∈ g_tb) (w5 : Cond.code y bytes maxL none ∈ g_tb) (hy : y.cls ≠ "java/lang/invoke/MethodHandle" ∧ y.cls ≠ "java/lang/invoke/VarHandle" ∧ (parseMethodDescriptor y.desc).map (fun d => d.parameters.length) = some n) (hyi : y.name = "<init>") (hml : maxL ≤ 21) (hdep : dC + 1 ≤ d) (hn : As.length = n) (hst : st = As.reverse ++ .ref (X.1.1 + k) :: rest) (hcat : (rest.map fun v => v.category).sum ≤ 8) (hk : ck + mc ≤ xk X) (ho : co + ms ≤ xo X) (hd : decode cc pc = .ok (.invokespecial index, 3)) (kk : wy X N1 E1 (ck + mc) (co + ms) (pc + 3) lv rest) : wy X N E ck co pc lv st := by
  refine wy_run (av := (Value.ref (X.1.1 + k) :: As).toArray) (fun H locs ls hH hl => ?_) kk
  have hr : (rmk dC mc ms).frames + 1 ≤ (xR X).frames ∧ 8 + (maxL + 11) + (rmk dC mc ms).locals ≤ (xR X).locals := by
    have := C.hd
    simp only [rmk]
    omega
  exact va_runIN (bytes := bytes) (maxL := maxL) (n := n) (As := As) (rest := rest) ⟨C.hx, C.hb, C.hm, C.ho, C.ht⟩ (hM (xl X)) ⟨va_cnB n C.ht (g_ws_good w5) rfl rfl rfl w1 (C.ht _ w4) hy hr, hyi, C.ht _ w2⟩ ⟨mk_blind, fun U hU hW => ⟨rfl, by rw [hU]; exact hH, va_K.moved hW.alike C.hK, Y.2.warm hW⟩⟩ rfl hn (by rw [show (F0 (xm X) pc ls st).locals = ls from rfl, hl.1]; exact C.hn) hst (lv_room hcat) hd ⟨Nat.le_trans hk C.hc.1, Nat.le_trans ho C.hc.2⟩
end WZ
