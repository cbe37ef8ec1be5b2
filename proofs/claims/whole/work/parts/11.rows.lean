/-! ===== reading and writing the memory, calls, ends ===== -/
def g_Qc (G : g_G) (Qr : Option Value → g_M → g_L → Prop) : Array Value → State → Outcome → State → Prop := fun _ st oc t => (∃ (r : Option Value) (M : g_M) (L : g_L), oc = .returned r ∧ Qr r M L ∧ g_H G M L t.heap ∧ va_K G.2.1 vwCl (g_tys G) t) ∧ va_F (g_A G) st t
def Rx (X : g_X) (Qr : Option Value → g_M → g_L → Prop) : Prop := xQ X = MQ (xb X) (g_Qc X.1 Qr) (xa X) (xs X) (xk X) (xo X) (g_A X.1)
def rm (d : Nat) : Room := { frames := d, cells := 0, slots := 0, locals := 40 * d }
/-- a method's contract: from the memory M, L with these arguments it comes back, and what it answers and leaves is as Qr says -/
def mt (G : g_G) (y : MethodName) (cd : Cond) (d : Nat) (av : List Value) (M : g_M) (L : g_L) (Qr : Option Value → g_M → g_L → Prop) : Prop :=
  ∀ l : Launch, Met l y (cd :: g_tb) (rm d) (va_Pc av (fun U => g_H G M L U.heap ∧ va_K G.2.1 vwCl (g_tys G) U)) (g_Qc G Qr) 0 0 (g_A G)
def qI (P : Int32 → g_M → g_L → Prop) : Option Value → g_M → g_L → Prop := fun r M L => ∃ v, r = some (.int v) ∧ P v M L
def qL (P : Int64 → g_M → g_L → Prop) : Option Value → g_M → g_L → Prop := fun r M L => ∃ v, r = some (.long v) ∧ P v M L
def qV (P : g_M → g_L → Prop) : Option Value → g_M → g_L → Prop := fun r M L => r = none ∧ P M L
def qR (b : Nat) (P : Nat → g_M → g_L → Prop) : Option Value → g_M → g_L → Prop := fun r M L => ∃ k, r = some (.ref (b + k)) ∧ P k M L
def qN (b : Nat) (P : Option Nat → g_M → g_L → Prop) : Option Value → g_M → g_L → Prop := fun r M L => (r = some .null ∧ P none M L) ∨ ∃ k, r = some (.ref (b + k)) ∧ P (some k) M L
theorem g_wsl_good : GoodIn g_tb g_tb := fun w h => ⟨h, (g_tb_good w h).2⟩
theorem g_ws_good {cd : Cond} (h : cd ∈ g_tb) : GoodIn g_tb (cd :: g_tb) := fun w hw => by
  rcases List.mem_cons.mp hw with rfl | h2
  · exact g_wsl_good _ h
  · exact g_wsl_good _ h2
section WR
variable {X : g_X} {cc : ByteArray} {nL : Nat} {own : String} {ret : Option FieldType} {d : Nat} {M : g_M} {L : g_L} {pc : Nat} {lv : List (Nat × Value)} {st : List Value} {Qr : Option Value → g_M → g_L → Prop}
theorem wx_get (C : Cx X cc nL own ret d) (k j : Nat) {ci N index : Nat} {fs : List Value} {ref Cn : String} {T : u_T} {v : Value} (hk : k < 168) (he : g_sh X.1 k (M k) (L k) = .inr (ci, fs)) (hc : vwCl[ci]? = some (Cn, T, N)) (hin : ∀ w ∈ u_ws Cn T N, w ∈ g_tb) (hj : j < N) (hw : Cond.fieldLink own index ref (T j).2.1 (T j).2.2.1 ∈ g_tb) (href : ref = (T j).1) (hv : fs[j]? = some v) (hd : decode cc pc = .ok (.getfield index, 3)) (kk : wx X M L (pc + 3) lv (v :: st)) : wx X M L pc lv (.ref (X.1.1 + k) :: st) :=
  fun H locs ls hH hS h => va_get (D := X.1.2.1) C.hx C.hb C.ht hin C.ho C.hK hH k (g_cell hk he) hc j hj (C.ht _ hw) (by rw [href]; exact fun _ h => h) hv hd (kk H locs ls hH hS h)
theorem wx_put (C : Cx X cc nL own ret d) (k j : Nat) {ci N index : Nat} {fs : List Value} {ref Cn : String} {T : u_T} {x : Int32} {ty : FieldType} (ty0 : Nat → FieldType) (hk : k < 168) (he : g_sh X.1 k (M k) (L k) = .inr (ci, fs)) (he2 : g_sh X.1 k (upd (M k) j x) (L k) = .inr (ci, fs.set j (.int x))) (hc : vwCl[ci]? = some (Cn, T, N)) (hin : ∀ w ∈ u_ws Cn T N, w ∈ g_tb) (hty : ∀ k, k < N → parseFieldDescriptor (T k).2.2.1 = some (ty0 k)) (hnm : ∀ a, a < N → ∀ b, b < N → a ≠ b → (T a).2.1 ≠ (T b).2.1) (hj : j < N) (hw : Cond.fieldLink own index ref (T j).2.1 (T j).2.2.1 ∈ g_tb) (href : ref = (T j).1) (hfin : (T j).2.2.2 = false) (hpd : parseFieldDescriptor (T j).2.2.1 = some ty) (hn : narrow ty (.int x) = .int x) (hfit : fits ty (.int x) = true) (hl : j < fs.length) (hd : decode cc pc = .ok (.putfield index, 3)) (kk : wx X (g_st M k j x) L (pc + 3) lv st) : wx X M L pc lv (.int x :: .ref (X.1.1 + k) :: st) :=
  fun H locs ls hH hS h => va_put (D := X.1.2.1) C.hx C.hb C.ht hin ty0 hty hnm C.ho C.hK hH (g_ws_D (fun _ q => q)) hS k (g_cell hk he) hc j hj (C.ht _ hw) (by rw [href]; exact fun _ h => h) hfin hpd hn hfit hl hd (fun H1 locs1 hP1 _ hS1 => kk H1 locs1 ls (by rw [g_ws_set, ← he2, g_E_st] at hP1; exact hP1) hS1 h)
theorem wx_putl (C : Cx X cc nL own ret d) (k j : Nat) {ci N index : Nat} {fs : List Value} {ref Cn : String} {T : u_T} {x : Int64} {ty : FieldType} (ty0 : Nat → FieldType) (hk : k < 168) (he : g_sh X.1 k (M k) (L k) = .inr (ci, fs)) (he2 : g_sh X.1 k (M k) (vp_updL (L k) j x) = .inr (ci, fs.set j (.long x))) (hc : vwCl[ci]? = some (Cn, T, N)) (hin : ∀ w ∈ u_ws Cn T N, w ∈ g_tb) (hty : ∀ k, k < N → parseFieldDescriptor (T k).2.2.1 = some (ty0 k)) (hnm : ∀ a, a < N → ∀ b, b < N → a ≠ b → (T a).2.1 ≠ (T b).2.1) (hj : j < N) (hw : Cond.fieldLink own index ref (T j).2.1 (T j).2.2.1 ∈ g_tb) (href : ref = (T j).1) (hfin : (T j).2.2.2 = false) (hpd : parseFieldDescriptor (T j).2.2.1 = some ty) (hn : narrow ty (.long x) = .long x) (hfit : fits ty (.long x) = true) (hl : j < fs.length) (hd : decode cc pc = .ok (.putfield index, 3)) (kk : wx X M (g_sl L k j x) (pc + 3) lv st) : wx X M L pc lv (.long x :: .ref (X.1.1 + k) :: st) :=
  fun H locs ls hH hS h => va_put (D := X.1.2.1) C.hx C.hb C.ht hin ty0 hty hnm C.ho C.hK hH (g_ws_D (fun _ q => q)) hS k (g_cell hk he) hc j hj (C.ht _ hw) (by rw [href]; exact fun _ h => h) hfin hpd hn hfit hl hd (fun H1 locs1 hP1 _ hS1 => kk H1 locs1 ls (by rw [g_ws_set, ← he2, g_E_sl] at hP1; exact hP1) hS1 h)
theorem wx_iald (C : Cx X cc nL own ret d) (k j : Nat) {n : Nat} {i : Int32} (hk : k < 168) (he : ∀ f g, g_sh X.1 k f g = g_ai X.1 n f) (hn : n < 2 ^ 31) (hd : decode cc pc = .ok (.iaload, 1)) (hi : i = nI j) (hj : j < n) (kk : wx X M L (pc + 1) lv (.int (M k j) :: st)) : wx X M L pc lv (.int i :: .ref (X.1.1 + k) :: st) := by
  intro H locs ls hH hS h
  subst hi
  refine va_iald (D := X.1.2.1) C.hx C.hb C.hK hH k 0 (g_cell hk (he _ _)) rfl (vp_in_nI hj hn) hd ?_
  rw [nI_clamp (by omega)]
  exact kk H locs ls hH hS h
theorem wx_zald (C : Cx X cc nL own ret d) (k j : Nat) {n : Nat} {i : Int32} (hk : k < 168) (he : ∀ f g, g_sh X.1 k f g = g_az X.1 n f) (hn : n < 2 ^ 31) (hd : decode cc pc = .ok (.baload, 1)) (hi : i = nI j) (hj : j < n) (kk : wx X M L (pc + 1) lv (.int (M k j) :: st)) : wx X M L pc lv (.int i :: .ref (X.1.1 + k) :: st) := by
  intro H locs ls hH hS h
  subst hi
  refine va_zald (D := X.1.2.1) C.hx C.hb C.hK hH k 1 (g_cell hk (he _ _)) rfl (vp_in_nI hj hn) hd ?_
  rw [nI_clamp (by omega)]
  exact kk H locs ls hH hS h
theorem wx_iast (C : Cx X cc nL own ret d) (k j : Nat) {n : Nat} {i x : Int32} (hk : k < 168) (he : ∀ f g, g_sh X.1 k f g = g_ai X.1 n f) (hn : n < 2 ^ 31) (hd : decode cc pc = .ok (.iastore, 1)) (hi : i = nI j) (hj : j < n) (kk : wx X (g_st M k j x) L (pc + 1) lv st) : wx X M L pc lv (.int x :: .int i :: .ref (X.1.1 + k) :: st) := by
  intro H locs ls hH hS h
  subst hi
  refine va_iast (D := X.1.2.1) C.hx C.hb C.hK hH (g_ws_D (fun _ q => q)) hS k 0 (g_cell hk (he _ _)) rfl (vp_in_nI hj hn) hd (fun H1 locs1 hP1 _ hS1 => kk H1 locs1 ls ?_ hS1 h)
  rw [nI_clamp (by omega), g_ws_set] at hP1
  have e : (Sum.inl (X.1.2.2 0, n, Sum.inl (upd (M k) j x)) : va_E) = g_sh X.1 k (upd (M k) j x) (L k) := (he _ _).symm
  rw [e, g_E_st] at hP1
  exact hP1
theorem wx_zast (C : Cx X cc nL own ret d) (k j : Nat) {n : Nat} {i x : Int32} (hk : k < 168) (he : ∀ f g, g_sh X.1 k f g = g_az X.1 n f) (hn : n < 2 ^ 31) (hd : decode cc pc = .ok (.bastore, 1)) (hi : i = nI j) (hj : j < n) (hx : vp_nar .boolean x = x) (kk : wx X (g_st M k j x) L (pc + 1) lv st) : wx X M L pc lv (.int x :: .int i :: .ref (X.1.1 + k) :: st) := by
  intro H locs ls hH hS h
  subst hi
  refine va_zast (D := X.1.2.1) C.hx C.hb C.hK hH (g_ws_D (fun _ q => q)) hS k 1 (g_cell hk (he _ _)) rfl (vp_in_nI hj hn) hd (fun H1 locs1 hP1 _ hS1 => kk H1 locs1 ls ?_ hS1 h)
  rw [nI_clamp (by omega), g_ws_set, hx] at hP1
  have e : (Sum.inl (X.1.2.2 1, n, Sum.inl (upd (M k) j x)) : va_E) = g_sh X.1 k (upd (M k) j x) (L k) := (he _ _).symm
  rw [e, g_E_st] at hP1
  exact hP1
theorem wx_aaldW (C : Cx X cc nL own ret d) (j : Nat) {i : Int32} (hd : decode cc pc = .ok (.aaload, 1)) (hi : i = nI j) (hj : j < 12) (kk : wx X M L (pc + 1) lv (.ref (X.1.1 + (18 + 3 * j)) :: st)) : wx X M L pc lv (.int i :: .ref (X.1.1 + 17) :: st) := by
  intro H locs ls hH hS h
  subst hi
  refine va_aldq (D := X.1.2.1) C.hx C.hb C.hK hH 17 2 (g_cell (by decide) rfl) rfl (vp_in_nI hj (by decide)) hd ?_
  rw [nI_clamp (by omega)]
  exact kk H locs ls hH hS h
theorem wx_aaldA (C : Cx X cc nL own ret d) (j : Nat) {i : Int32} (hd : decode cc pc = .ok (.aaload, 1)) (hi : i = nI j) (hj : j < 30) (kk : wx X M L (pc + 1) lv (.ref (X.1.1 + (56 + 3 * j)) :: st)) : wx X M L pc lv (.int i :: .ref (X.1.1 + 55) :: st) := by
  intro H locs ls hH hS h
  subst hi
  refine va_aldq (D := X.1.2.1) C.hx C.hb C.hK hH 55 3 (g_cell (by decide) rfl) rfl (vp_in_nI hj (by decide)) hd ?_
  rw [nI_clamp (by omega)]
  exact kk H locs ls hH hS h
theorem wx_mmax (C : Cx X cc nL own ret d) {index : Nat} {x y : Int32} (hw : Cond.methodLink own index Lib.Math.max.name ∈ g_tb) (w1 : Cond.static Lib.Math.max.name ∈ g_tb) (w2 : Cond.initialized "java/lang/Math" ∈ g_tb) (w3 : Cond.code Lib.Math.max.name Lib.Math.max.code 2 (some .int) ∈ g_tb) (hd1 : 1 ≤ d) (hcat : (st.map fun v => v.category).sum ≤ 8) (hd : decode cc pc = .ok (.invokestatic index, 3)) (kk : wx X M L (pc + 3) lv (.int (if x < y then y else x) :: st)) : wx X M L pc lv (.int y :: .int x :: st) :=
  fun H locs ls hH hS h => va_mmax C.hx C.hb (by rw [C.hm, h.1, C.hn]) C.ho (C.ht _ hw) (C.ht _ w1) (C.ht _ w2) (C.ht _ w3) (Nat.le_trans hd1 C.hd.1) (by have := C.hd.2; omega) C.hc.1 C.hc.2 hd (kk H locs ls hH hS h)
theorem wx_mmin (C : Cx X cc nL own ret d) {index : Nat} {x y : Int32} (hw : Cond.methodLink own index Lib.Math.min.name ∈ g_tb) (w1 : Cond.static Lib.Math.min.name ∈ g_tb) (w2 : Cond.initialized "java/lang/Math" ∈ g_tb) (w3 : Cond.code Lib.Math.min.name Lib.Math.min.code 2 (some .int) ∈ g_tb) (hd1 : 1 ≤ d) (hcat : (st.map fun v => v.category).sum ≤ 8) (hd : decode cc pc = .ok (.invokestatic index, 3)) (kk : wx X M L (pc + 3) lv (.int (if y < x then y else x) :: st)) : wx X M L pc lv (.int y :: .int x :: st) :=
  fun H locs ls hH hS h => va_mmin C.hx C.hb (by rw [C.hm, h.1, C.hn]) C.ho (C.ht _ hw) (C.ht _ w1) (C.ht _ w2) (C.ht _ w3) (Nat.le_trans hd1 C.hd.1) (by have := C.hd.2; omega) C.hc.1 C.hc.2 hd (kk H locs ls hH hS h)
theorem wx_iret (C : Cx X cc nL own (some .int) d) (hQ : Rx X Qr) {v : Int32} (hd : decode cc pc = .ok (.ireturn, 1)) (hp : Qr (some (.int v)) M L) : wx X M L pc lv [.int v] := fun H locs ls hH hS h => by
  rw [hQ]
  exact W.iret C.hx C.hb C.hr (fun t ht hW => ⟨⟨_, M, L, rfl, hp, by rw [ht]; exact hH, va_K.moved hW.alike C.hK⟩, hS.F ht⟩) hS.2.2 hd C.hlk
theorem wx_zret (C : Cx X cc nL own (some .boolean) d) (hQ : Rx X Qr) {v : Int32} (hd : decode cc pc = .ok (.ireturn, 1)) (hn : narrow .boolean (.int v) = .int v) (hp : Qr (some (.int v)) M L) : wx X M L pc lv [.int v] := fun H locs ls hH hS h => by
  rw [hQ]
  exact W.zret C.hx C.hb C.hr hn (fun t ht hW => ⟨⟨_, M, L, rfl, hp, by rw [ht]; exact hH, va_K.moved hW.alike C.hK⟩, hS.F ht⟩) hS.2.2 hd C.hlk
theorem wx_lret (C : Cx X cc nL own (some .long) d) (hQ : Rx X Qr) {v : Int64} (hd : decode cc pc = .ok (.lreturn, 1)) (hp : Qr (some (.long v)) M L) : wx X M L pc lv [.long v] := fun H locs ls hH hS h => by
  rw [hQ]
  exact W.lret C.hx C.hb C.hr (fun t ht hW => ⟨⟨_, M, L, rfl, hp, by rw [ht]; exact hH, va_K.moved hW.alike C.hK⟩, hS.F ht⟩) hS.2.2 hd C.hlk
theorem wx_vret (C : Cx X cc nL own none d) (hQ : Rx X Qr) (hd : decode cc pc = .ok (.return_, 1)) (hp : Qr none M L) : wx X M L pc lv [] := fun H locs ls hH hS h => by
  rw [hQ]
  exact W.vret C.hx C.hb C.hr (fun t ht hW => ⟨⟨_, M, L, rfl, hp, by rw [ht]; exact hH, va_K.moved hW.alike C.hK⟩, hS.F ht⟩) hS.2.2 hd C.hlk
theorem wx_aret {rt : FieldType} (C : Cx X cc nL own (some rt) d) (hQ : Rx X Qr) {v : Value} (hd : decode cc pc = .ok (.areturn, 1)) (hrt : (∃ n, rt = .object n) ∨ ∃ t, rt = .array t) (hv : v = .null ∨ ∃ a, v = .ref a) (hp : Qr (some v) M L) : wx X M L pc lv [v] := fun H locs ls hH hS h => by
  rw [hQ]
  exact W.aret C.hx C.hb C.hr hrt hv (fun t ht hW => ⟨⟨_, M, L, rfl, hp, by rw [ht]; exact hH, va_K.moved hW.alike C.hK⟩, hS.F ht⟩) hS.2.2 hd C.hlk
theorem wx_run {rest : List Value} {av : Array Value} (hr : ∀ (H : Heap) (locs : List Loc) (ls : Array Slot), g_H X.1 M L H → lv_has ls (xn X) lv → va_Run (xp X) (xl X) (xe X) (xR X) (xs X) (xm X) (xa X) (xb X) (xh X) (xc X) H locs (xk X) (xo X) 0 0 (F0 (xm X) pc ls st) rest (g_Qc X.1 Qr av) (g_A X.1)) (kk : ∀ (r : Option Value) (M1 : g_M) (L1 : g_L), Qr r M1 L1 → wx X M1 L1 (pc + 3) lv (r.toList ++ rest)) : wx X M L pc lv st := by
  intro H locs ls hH hS hl T hT St
  obtain ⟨v, st₀, t, T', Lc, h0, X', hL, e1, e2, ⟨⟨r, M1, L1, hv, hq, hH1, hK1⟩, hz, hk⟩, stp⟩ := hr H locs ls hH hl T hT St
  cases hv
  rw [h0] at hz hk
  obtain ⟨t2, a1, b1⟩ := kk v M1 L1 hq T'.heap (locs ++ Lc) ls (by rw [e1]; exact hH1)
    ⟨Nat.le_trans hS.1 (by rw [e1]; exact hz), fun q h1 h2 => by rw [e1, hk q (Nat.lt_of_lt_of_le h1 hS.1) h2]; exact hS.2.1 q h1 h2, fun q hq => by
      rcases List.mem_append.mp hq with h | h
      · exact hS.2.2 q h
      · exact hL q h⟩ hl T' rfl X'
  exact ⟨t2, stp t2 a1, b1⟩
theorem mt_blind {G : g_G} {av : List Value} : FrameBlind (va_Pc av (fun U => g_H G M L U.heap ∧ va_K G.2.1 vwCl (g_tys G) U)) := fun a U g mk q => by
  obtain ⟨q0, qP, qK⟩ := q
  exact ⟨q0, qP, va_K.moved (u := U) (U := U.calling g mk a) (Vm.Alike.refl U.vm) qK⟩
theorem wx_callV (C : Cx X cc nL own ret d) {k ci N index n maxL dC : Nat} {y : MethodName} {bytes : ByteArray} {rt : Option FieldType} {Cn : String} {T : u_T} {fs As rest : List Value} (hM : mt X.1 y (.code y bytes maxL rt) dC (.ref (X.1.1 + k) :: As) M L Qr) (hk : k < 168) (he : g_sh X.1 k (M k) (L k) = .inr (ci, fs)) (hc : vwCl[ci]? = some (Cn, T, N)) (w1 : Cond.methodLink own index y ∈ g_tb) (w2 : Cond.instanceMethod y ∈ g_tb) (w3 : Cond.selects Cn y y ∈ g_tb) (w4 : Cond.initialized y.cls ∈ g_tb) (w5 : Cond.code y bytes maxL rt ∈ g_tb) (hy : y.cls ≠ "java/lang/invoke/MethodHandle" ∧ y.cls ≠ "java/lang/invoke/VarHandle" ∧ (parseMethodDescriptor y.desc).map (fun d => d.parameters.length) = some n) (hml : maxL ≤ 21) (hdep : dC + 1 ≤ d) (hn : As.length = n) (hst : st = As.reverse ++ .ref (X.1.1 + k) :: rest) (hcat : (rest.map fun v => v.category).sum ≤ 8) (hd : decode cc pc = .ok (.invokevirtual index, 3)) (kk : ∀ (r : Option Value) (M1 : g_M) (L1 : g_L), Qr r M1 L1 → wx X M1 L1 (pc + 3) lv (r.toList ++ rest)) : wx X M L pc lv st := by
  refine wx_run (Qr := Qr) (rest := rest) (av := (Value.ref (X.1.1 + k) :: As).toArray) (fun H locs ls hH hl => ?_) kk
  have hr : (rm dC).frames + 1 ≤ (xR X).frames ∧ 8 + (maxL + 11) + (rm dC).locals ≤ (xR X).locals := by
    have := C.hd
    simp only [rm]
    omega
  refine va_runV (bytes := bytes) (maxL := maxL) (ret := rt) (n := n) (As := As) (rest := rest) ⟨C.hx, C.hb, C.hm, C.ho, C.ht⟩ (hM (xl X)) ⟨callB_of n C.ht (g_ws_good w5) rfl rfl rfl (C.ht _ w4) (C.ht _ w1) hy hr, C.ht _ w2, C.ht _ w3⟩ ⟨mt_blind, va_recv C.hK hH hc (g_cell hk he), fun U hU hW => ⟨rfl, by rw [hU]; exact hH, va_K.moved hW.alike C.hK⟩⟩ rfl hn (by rw [hl.1]; exact C.hn) hst (lv_room hcat) hd ⟨C.hc.1, C.hc.2⟩
theorem wx_callS (C : Cx X cc nL own ret d) {index n maxL dC : Nat} {y : MethodName} {bytes : ByteArray} {rt : Option FieldType} {As rest : List Value} (hM : mt X.1 y (.code y bytes maxL rt) dC As M L Qr) (w1 : Cond.methodLink own index y ∈ g_tb) (w2 : Cond.static y ∈ g_tb) (w4 : Cond.initialized y.cls ∈ g_tb) (w5 : Cond.code y bytes maxL rt ∈ g_tb) (hy : y.cls ≠ "java/lang/invoke/MethodHandle" ∧ y.cls ≠ "java/lang/invoke/VarHandle" ∧ (parseMethodDescriptor y.desc).map (fun d => d.parameters.length) = some n) (hml : maxL ≤ 21) (hdep : dC + 1 ≤ d) (hn : As.length = n) (hst : st = As.reverse ++ rest) (hcat : (rest.map fun v => v.category).sum ≤ 8) (hd : decode cc pc = .ok (.invokestatic index, 3)) (kk : ∀ (r : Option Value) (M1 : g_M) (L1 : g_L), Qr r M1 L1 → wx X M1 L1 (pc + 3) lv (r.toList ++ rest)) : wx X M L pc lv st := by
  refine wx_run (Qr := Qr) (rest := rest) (av := As.toArray) (fun H locs ls hH hl => ?_) kk
  have hr : (rm dC).frames + 1 ≤ (xR X).frames ∧ 8 + (maxL + 11) + (rm dC).locals ≤ (xR X).locals := by
    have := C.hd
    simp only [rm]
    omega
  refine va_runS (bytes := bytes) (maxL := maxL) (ret := rt) (n := n) (As := As) (rest := rest) ⟨C.hx, C.hb, C.hm, C.ho, C.ht⟩ (hM (xl X)) ⟨callB_of n C.ht (g_ws_good w5) rfl rfl rfl (C.ht _ w4) (C.ht _ w1) hy hr, C.ht _ w2⟩ ⟨mt_blind, fun U hU hW => ⟨rfl, by rw [hU]; exact hH, va_K.moved hW.alike C.hK⟩⟩ rfl hn (by rw [hl.1]; exact C.hn) hst (lv_room hcat) hd ⟨C.hc.1, C.hc.2⟩
theorem kI {P : Int32 → g_M → g_L → Prop} {rest : List Value} (k : ∀ v M1 L1, P v M1 L1 → wx X M1 L1 pc lv (.int v :: rest)) : ∀ (r : Option Value) (M1 : g_M) (L1 : g_L), qI P r M1 L1 → wx X M1 L1 pc lv (r.toList ++ rest) := fun r M1 L1 ⟨v, e, h⟩ => by subst e; exact k v M1 L1 h
theorem kL {P : Int64 → g_M → g_L → Prop} {rest : List Value} (k : ∀ v M1 L1, P v M1 L1 → wx X M1 L1 pc lv (.long v :: rest)) : ∀ (r : Option Value) (M1 : g_M) (L1 : g_L), qL P r M1 L1 → wx X M1 L1 pc lv (r.toList ++ rest) := fun r M1 L1 ⟨v, e, h⟩ => by subst e; exact k v M1 L1 h
theorem kV {P : g_M → g_L → Prop} {rest : List Value} (k : ∀ M1 L1, P M1 L1 → wx X M1 L1 pc lv rest) : ∀ (r : Option Value) (M1 : g_M) (L1 : g_L), qV P r M1 L1 → wx X M1 L1 pc lv (r.toList ++ rest) := fun r M1 L1 ⟨e, h⟩ => by subst e; exact k M1 L1 h
theorem kR {P : Nat → g_M → g_L → Prop} {rest : List Value} (k : ∀ v M1 L1, P v M1 L1 → wx X M1 L1 pc lv (.ref (X.1.1 + v) :: rest)) : ∀ (r : Option Value) (M1 : g_M) (L1 : g_L), qR X.1.1 P r M1 L1 → wx X M1 L1 pc lv (r.toList ++ rest) := fun r M1 L1 ⟨v, e, h⟩ => by subst e; exact k v M1 L1 h
theorem kN {P : Option Nat → g_M → g_L → Prop} {rest : List Value} (k0 : ∀ M1 L1, P none M1 L1 → wx X M1 L1 pc lv (.null :: rest)) (k : ∀ v M1 L1, P (some v) M1 L1 → wx X M1 L1 pc lv (.ref (X.1.1 + v) :: rest)) : ∀ (r : Option Value) (M1 : g_M) (L1 : g_L), qN X.1.1 P r M1 L1 → wx X M1 L1 pc lv (r.toList ++ rest) := fun r M1 L1 h => by
  rcases h with ⟨e, h⟩ | ⟨v, e, h⟩
  · subst e; exact k0 M1 L1 h
  · subst e; exact k v M1 L1 h
end WR
theorem mt_of {G : g_G} {y : MethodName} {cc : ByteArray} {maxL d : Nat} {ret : Option FieldType} {av : List Value} {M : g_M} {L : g_L} {Qr : Option Value → g_M → g_L → Prop} {own : String} (hy : plainName y.cls = true) (hown : y.cls = own) (hn : (lg_sl av).length ≤ maxL) (lv : List (Nat × Value)) (hlv : lv_args 0 av = lv) (body : ∀ X : g_X, X.1 = G → Cx X cc maxL own ret d → Rx X Qr → wx X M L 0 lv []) : mt G y (.code y cc maxL ret) d av M L Qr := by
  intro l
  refine Met.ofW (cc := cc) (maxL := maxL) (ret := ret) hy rfl ?_
  intro p e s m args below meth c s₁ B hml hv
  obtain ⟨rfl, hH, hK⟩ := hv
  have hts := atoms_spec (ws := Cond.code y cc maxL ret :: g_tb) B.pre
  have hl := lv_entry av (n := maxL) hn
  rw [lg_entry_eq]
  rw [hlv] at hl
  exact body (G, p, l, e, rm d, s, m, av.toArray, below, meth, c, 0, 0, MQ below (g_Qc G Qr) av.toArray s 0 0 (g_A G), maxL) rfl ⟨B.exec, B.bytes, hml, rfl, by rw [← hown]; exact findClass_of_methodNamed B.named, fun w hw => hts w (List.mem_cons_of_mem _ hw), hK, B.returns, B.notSynchronized, ⟨Nat.le_refl _, Nat.le_refl _⟩, Nat.le_refl _, Nat.le_refl _⟩ rfl s.heap [] _ hH va_S.rf hl
