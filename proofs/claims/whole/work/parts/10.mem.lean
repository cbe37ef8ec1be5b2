/-! ===== THE MEMORY: all cells of the class (0 .. 148) and of the reference (149 .. 167) stand side by side from the law's first free address on; their shapes never change behind the constructors; what changes are numbers: M cell place (ints, booleans), L cell place (longs) ===== -/
abbrev g_M : Type := Nat → Nat → Int32
abbrev g_L : Type := Nat → Nat → Int64
/-- where the cells begin; classes and slots; the array classes: 0 int, 1 boolean, 2 Wanderer, 3 Act -/
abbrev g_G : Type := Nat × va_G × (Nat → ClassId)
def g_tys (G : g_G) : List (ClassId × FieldType) := [(G.2.2 0, .int), (G.2.2 1, .boolean), (G.2.2 2, .object "NightDots$Wanderer"), (G.2.2 3, .object "NightDots$Act")]
def g_A (G : g_G) : Nat → Prop := fun q => G.1 ≤ q
def g_ws (b N : Nat) (E : Nat → va_E) : va_W := (List.range N).map (fun k => (b + k, E k))
theorem g_ws_at {b N k : Nat} {E : Nat → va_E} (h : k < N) : (g_ws b N E)[k]? = some (b + k, E k) := by
  simp [g_ws, h]
theorem g_ws_inv {b N k : Nat} {E : Nat → va_E} {q : Nat × va_E} (h : (g_ws b N E)[k]? = some q) : k < N ∧ q = (b + k, E k) := by
  have hk : k < N := by
    have := (List.getElem?_eq_some_iff.mp h).1
    simpa [g_ws] using this
  refine ⟨hk, ?_⟩
  rw [g_ws_at hk] at h
  exact (Option.some.inj h).symm
theorem g_ws_D {b N : Nat} {E : Nat → va_E} {A : Nat → Prop} (hA : ∀ q, b ≤ q → A q) : va_D A (g_ws b N E) := by
  refine ⟨fun i j p q hi hj he => ?_, fun k q hk => ?_⟩
  · obtain ⟨-, rfl⟩ := g_ws_inv hi
    obtain ⟨-, rfl⟩ := g_ws_inv hj
    dsimp only at he
    omega
  · obtain ⟨-, rfl⟩ := g_ws_inv hk
    exact hA _ (by dsimp only; omega)
theorem g_ws_set {b N k : Nat} {E : Nat → va_E} {e : va_E} : (g_ws b N E).set k (b + k, e) = g_ws b N (va_up E k e) := by
  apply List.ext_getElem?
  intro i
  rw [List.getElem?_set]
  by_cases hi : i < N
  · rw [g_ws_at hi]
    by_cases hk : k = i
    · subst hk
      rw [if_pos rfl, g_ws_at hi, va_up_self, if_pos (by simpa [g_ws] using hi)]
    · rw [if_neg hk, g_ws_at hi, va_up_ne _ _ (fun h => hk h.symm)]
  · have h1 : (g_ws b N E)[i]? = none := by simp [g_ws]; omega
    have h2 : (g_ws b N (va_up E k e))[i]? = none := by simp [g_ws]; omega
    rw [h1, h2]
    have h3 : ¬ i < (g_ws b N E).length := by simp [g_ws]; omega
    simp [h3]
    intro h; subst h; exact Nat.le_of_not_lt h3
theorem g_ws_push {b N : Nat} {E : Nat → va_E} {e : va_E} : g_ws b N E ++ [(b + N, e)] = g_ws b (N + 1) (va_up E N e) := by
  have h : (List.range N).map (fun k => (b + k, E k)) = (List.range N).map (fun k => (b + k, va_up E N e k)) := by
    apply List.map_congr_left
    intro k hk
    rw [va_up_ne _ _ (Nat.ne_of_lt (List.mem_range.mp hk))]
  simp only [g_ws, List.range_succ, List.map_append, List.map_cons, List.map_nil, va_up_self]
  rw [h]
theorem g_ws_cong {b N : Nat} {E F : Nat → va_E} (h : ∀ k, k < N → E k = F k) : g_ws b N E = g_ws b N F := by
  apply List.map_congr_left
  intro k hk
  rw [h k (List.mem_range.mp hk)]
/-- the shapes -/
def g_ai (G : g_G) (n : Nat) (f : Nat → Int32) : va_E := .inl (G.2.2 0, n, .inl f)
def g_az (G : g_G) (n : Nat) (f : Nat → Int32) : va_E := .inl (G.2.2 1, n, .inl f)
def g_sh1 (G : g_G) (k : Nat) (f : Nat → Int32) : va_E := match k with
  | 0 => .inr (10, [.ref (G.1 + 1), .ref (G.1 + 7), .ref (G.1 + 8), .ref (G.1 + 9), .ref (G.1 + 16), .ref (G.1 + 54), .ref (G.1 + 146), .ref (G.1 + 147)])
  | 1 => .inr (7, [.ref (G.1 + 2), .ref (G.1 + 3), .ref (G.1 + 4), .ref (G.1 + 5), .ref (G.1 + 6), .int (f 5)])
  | 2 => g_ai G 60 f
  | 3 => g_ai G 60 f
  | 4 => g_ai G 60 f
  | 5 => g_ai G 60 f
  | 6 => g_ai G 60 f
  | 7 => .inr (4, [.ref (G.1 + 1), .int (f 1), .int (f 2), .int (f 3), .int (f 4)])
  | 8 => .inr (2, [.ref (G.1 + 1), .int (f 1), .int (f 2), .int (f 3)])
  | 9 => .inr (5, [.ref (G.1 + 1), .ref (G.1 + 7), .ref (G.1 + 8), .ref (G.1 + 10), .ref (G.1 + 11), .ref (G.1 + 12), .ref (G.1 + 13), .ref (G.1 + 14), .int (f 8), .int (f 9), .int (f 10)])
  | 10 => g_ai G 780 f
  | 11 => g_ai G 780 f
  | 12 => g_ai G 40 f
  | 13 => g_ai G 40 f
  | 14 => .inr (6, [.ref (G.1 + 15), .int (f 1)])
  | 15 => g_ai G 16 f
  | 16 => .inr (9, [.ref (G.1 + 1), .ref (G.1 + 17), .int (f 2)])
  | _ => .inl (G.2.2 2, 12, .inr (.inr (.inr (.inr (fun i => some (G.1 + (18 + 3 * i)))))))
def g_sh2 (G : g_G) (k : Nat) (f : Nat → Int32) (g : Nat → Int64) : va_E := match k with
  | 0 => .inr (11, [.int (f 0), .int (f 1), .int (f 2), .int (f 3), .int (f 4), .ref (G.1 + 150), .ref (G.1 + 151), .ref (G.1 + 152), .ref (G.1 + 153), .ref (G.1 + 154), .ref (G.1 + 155), .ref (G.1 + 156), .ref (G.1 + 157), .ref (G.1 + 158), .ref (G.1 + 159), .int (f 15), .int (f 16), .int (f 17), .long (g 18), .long (g 19), .ref (G.1 + 160), .ref (G.1 + 161), .int (f 22), .ref (G.1 + 162), .ref (G.1 + 163), .int (f 25), .int (f 26), .int (f 27), .ref (G.1 + 164), .ref (G.1 + 165), .ref (G.1 + 166), .ref (G.1 + 167), .long (g 32), .long (g 33), .long (g 34), .long (g 35)])
  | 1 => g_ai G 60 f
  | 2 => g_ai G 60 f
  | 3 => g_ai G 60 f
  | 4 => g_ai G 60 f
  | 5 => g_ai G 60 f
  | 6 => g_ai G 12 f
  | 7 => g_ai G 12 f
  | 8 => g_ai G 96 f
  | 9 => g_az G 12 f
  | 10 => g_ai G 16 f
  | 11 => g_ai G 1800 f
  | 12 => g_ai G 1800 f
  | 13 => g_ai G 800 f
  | 14 => g_ai G 800 f
  | 15 => g_ai G 30 f
  | 16 => g_ai G 360 f
  | 17 => g_ai G 2880 f
  | _ => g_az G 360 f
def g_sh (G : g_G) (k : Nat) (f : Nat → Int32) (g : Nat → Int64) : va_E :=
  if k < 18 then g_sh1 G k f
  else if k < 54 then (if k % 3 = 0 then .inr (8, [.int (f 0), .int (f 1), .ref (G.1 + (k + 1))]) else if k % 3 = 1 then .inr (6, [.ref (G.1 + (k + 1)), .int (f 1)]) else g_ai G 16 f)
  else if k < 56 then (if k = 54 then .inr (1, [.ref (G.1 + 55), .int (f 1), .int (f 2)]) else .inl (G.2.2 3, 30, .inr (.inr (.inr (.inr (fun i => some (G.1 + (56 + 3 * i))))))))
  else if k < 146 then (if k % 3 = 2 then .inr (0, [.int (f 0), .int (f 1), .int (f 2), .ref (G.1 + (k + 1))]) else if k % 3 = 0 then .inr (6, [.ref (G.1 + (k + 1)), .int (f 1)]) else g_ai G 16 f)
  else if k < 149 then (if k = 146 then .inr (3, [.long (g 0), .long (g 1), .long (g 2), .long (g 3), .long (g 4)]) else if k = 147 then .inr (6, [.ref (G.1 + 148), .int (f 1)]) else g_ai G 16 f)
  else g_sh2 G (k - 149) f g
/-- a row of dots: its object; its array stands behind it -/
def g_row (k : Nat) : Prop := k = 14 ∨ k = 147 ∨ (∃ p, p < 12 ∧ k = 19 + 3 * p) ∨ ∃ i, i < 30 ∧ k = 57 + 3 * i
theorem sh_row {G : g_G} {k : Nat} (h : g_row k) (f : Nat → Int32) (g : Nat → Int64) : g_sh G k f g = .inr (6, [.ref (G.1 + (k + 1)), .int (f 1)]) := by
  rcases h with rfl | rfl | ⟨p, hp, rfl⟩ | ⟨i, hi, rfl⟩
  · rfl
  · rfl
  · unfold g_sh
    rw [if_neg (by omega), if_pos (by omega), if_neg (by omega), if_pos (by omega)]
  · unfold g_sh
    rw [if_neg (by omega), if_neg (by omega), if_neg (by omega), if_pos (by omega), if_neg (by omega), if_pos (by omega)]
theorem sh_rowD {G : g_G} {k : Nat} (h : g_row k) (f : Nat → Int32) (g : Nat → Int64) : g_sh G (k + 1) f g = g_ai G 16 f := by
  rcases h with rfl | rfl | ⟨p, hp, rfl⟩ | ⟨i, hi, rfl⟩
  · rfl
  · rfl
  · unfold g_sh
    rw [if_neg (by omega), if_pos (by omega), if_neg (by omega), if_neg (by omega)]
  · unfold g_sh
    rw [if_neg (by omega), if_neg (by omega), if_neg (by omega), if_pos (by omega), if_neg (by omega), if_neg (by omega)]
theorem g_row_lt {k : Nat} (h : g_row k) : k + 1 < 168 := by
  rcases h with rfl | rfl | ⟨p, hp, rfl⟩ | ⟨i, hi, rfl⟩ <;> omega
theorem sh_wan {G : g_G} {p : Nat} (h : p < 12) (f : Nat → Int32) (g : Nat → Int64) : g_sh G (18 + 3 * p) f g = .inr (8, [.int (f 0), .int (f 1), .ref (G.1 + (19 + 3 * p))]) := by
  unfold g_sh
  rw [if_neg (by omega), if_pos (by omega), if_pos (by omega), show 18 + 3 * p + 1 = 19 + 3 * p by omega]
theorem sh_act {G : g_G} {i : Nat} (h : i < 30) (f : Nat → Int32) (g : Nat → Int64) : g_sh G (56 + 3 * i) f g = .inr (0, [.int (f 0), .int (f 1), .int (f 2), .ref (G.1 + (57 + 3 * i))]) := by
  unfold g_sh
  rw [if_neg (by omega), if_neg (by omega), if_neg (by omega), if_pos (by omega), if_pos (by omega), show 56 + 3 * i + 1 = 57 + 3 * i by omega]
def g_E (G : g_G) (M : g_M) (L : g_L) : Nat → va_E := fun k => g_sh G k (M k) (L k)
def g_H (G : g_G) (M : g_M) (L : g_L) (H : Heap) : Prop := va_P G.2.1 vwCl (g_ws G.1 168 (g_E G M L)) H
/-- a number is stored -/
def g_st (M : g_M) (k j : Nat) (x : Int32) : g_M := fun a => if a = k then upd (M k) j x else M a
def g_sl (L : g_L) (k j : Nat) (x : Int64) : g_L := fun a => if a = k then vp_updL (L k) j x else L a
theorem g_st_ap (M : g_M) (k j : Nat) (x : Int32) (a b : Nat) : g_st M k j x a b = if a = k ∧ b = j then x else M a b := by
  unfold g_st upd
  by_cases h : a = k
  · subst h
    by_cases h2 : b = j <;> simp [h2]
  · simp [h]
theorem g_sl_ap (L : g_L) (k j : Nat) (x : Int64) (a b : Nat) : g_sl L k j x a b = if a = k ∧ b = j then x else L a b := by
  unfold g_sl vp_updL
  by_cases h : a = k
  · subst h
    by_cases h2 : b = j <;> simp [h2]
  · simp [h]
theorem g_E_st {G : g_G} {M : g_M} {L : g_L} {k j : Nat} {x : Int32} : va_up (g_E G M L) k (g_sh G k (upd (M k) j x) (L k)) = g_E G (g_st M k j x) L := by
  funext a
  by_cases h : a = k
  · subst h
    rw [va_up_self]
    simp [g_E, g_st]
  · rw [va_up_ne _ _ h]
    simp [g_E, g_st, h]
theorem g_E_sl {G : g_G} {M : g_M} {L : g_L} {k j : Nat} {x : Int64} : va_up (g_E G M L) k (g_sh G k (M k) (vp_updL (L k) j x)) = g_E G M (g_sl L k j x) := by
  funext a
  by_cases h : a = k
  · subst h
    rw [va_up_self]
    simp [g_E, g_sl]
  · rw [va_up_ne _ _ h]
    simp [g_E, g_sl, h]
theorem g_cell {G : g_G} {M : g_M} {L : g_L} {k : Nat} {e : va_E} (hk : k < 168) (h : g_sh G k (M k) (L k) = e) : (g_ws G.1 168 (g_E G M L))[k]? = some (G.1 + k, e) := by
  rw [g_ws_at hk]; unfold g_E; rw [h]
/-! the machine at a place of a method, with a memory -/
abbrev g_X : Type := g_G × Program × Launch × Env × Room × State × MethodId × Array Value × List Frame × Method × Code × Nat × Nat × (State → Prop) × Nat
abbrev xp (X : g_X) : Program := X.2.1
abbrev xl (X : g_X) : Launch := X.2.2.1
abbrev xe (X : g_X) : Env := X.2.2.2.1
abbrev xR (X : g_X) : Room := X.2.2.2.2.1
abbrev xs (X : g_X) : State := X.2.2.2.2.2.1
abbrev xm (X : g_X) : MethodId := X.2.2.2.2.2.2.1
abbrev xa (X : g_X) : Array Value := X.2.2.2.2.2.2.2.1
abbrev xb (X : g_X) : List Frame := X.2.2.2.2.2.2.2.2.1
abbrev xh (X : g_X) : Method := X.2.2.2.2.2.2.2.2.2.1
abbrev xc (X : g_X) : Code := X.2.2.2.2.2.2.2.2.2.2.1
abbrev xk (X : g_X) : Nat := X.2.2.2.2.2.2.2.2.2.2.2.1
abbrev xo (X : g_X) : Nat := X.2.2.2.2.2.2.2.2.2.2.2.2.1
abbrev xQ (X : g_X) : State → Prop := X.2.2.2.2.2.2.2.2.2.2.2.2.2.1
abbrev xn (X : g_X) : Nat := X.2.2.2.2.2.2.2.2.2.2.2.2.2.2
def wx (X : g_X) (M : g_M) (L : g_L) (pc : Nat) (lv : List (Nat × Value)) (st : List Value) : Prop :=
  ∀ (H : Heap) (locs : List Loc) (ls : Array Slot), g_H X.1 M L H → va_S (g_A X.1) (xs X).heap H locs → lv_has ls (xn X) lv → W (xp X) (xl X) (xe X) (xR X) (xs X) (xm X) (xa X) (xb X) (xh X) (xc X) H locs (xk X) (xo X) (xQ X) (F0 (xm X) pc ls st)
/-- what a method knows of its machine: code, locals, class, answer's type, how deep its calls go -/
def Cx (X : g_X) (cc : ByteArray) (nL : Nat) (own : String) (ret : Option FieldType) (d : Nat) : Prop :=
  (xp X).tables.exec = Jvm.exec ∧ (xc X).code = cc ∧ (xc X).maxLocals = nL ∧ xn X = nL ∧ (xs X).vm.findClass own = some (xm X).cls ∧ (∀ w ∈ g_tb, w.before (xa X) (xs X) = true) ∧ va_K X.1.2.1 vwCl (g_tys X.1) (xs X) ∧ (xh X).sig.returnType = ret ∧ (xh X).locks = false ∧ (d ≤ (xR X).frames ∧ 40 * d ≤ (xR X).locals) ∧ xk X ≤ (xR X).cells ∧ xo X ≤ (xR X).slots
section WX
variable {X : g_X} {cc : ByteArray} {nL : Nat} {own : String} {ret : Option FieldType} {d : Nat} {M : g_M} {L : g_L} {pc : Nat} {lv : List (Nat × Value)} {st : List Value}
theorem Cx.hx (C : Cx X cc nL own ret d) : (xp X).tables.exec = Jvm.exec := C.1
theorem Cx.hb (C : Cx X cc nL own ret d) : (xc X).code = cc := C.2.1
theorem Cx.ho (C : Cx X cc nL own ret d) : (xs X).vm.findClass own = some (xm X).cls := C.2.2.2.2.1
theorem Cx.ht (C : Cx X cc nL own ret d) : ∀ w ∈ g_tb, w.before (xa X) (xs X) = true := C.2.2.2.2.2.1
theorem Cx.hK (C : Cx X cc nL own ret d) : va_K X.1.2.1 vwCl (g_tys X.1) (xs X) := C.2.2.2.2.2.2.1
theorem Cx.hr (C : Cx X cc nL own ret d) : (xh X).sig.returnType = ret := C.2.2.2.2.2.2.2.1
theorem Cx.hlk (C : Cx X cc nL own ret d) : (xh X).locks = false := C.2.2.2.2.2.2.2.2.1
theorem Cx.hd (C : Cx X cc nL own ret d) : d ≤ (xR X).frames ∧ 40 * d ≤ (xR X).locals := C.2.2.2.2.2.2.2.2.2.1
theorem Cx.hc (C : Cx X cc nL own ret d) : xk X ≤ (xR X).cells ∧ xo X ≤ (xR X).slots := C.2.2.2.2.2.2.2.2.2.2
theorem Cx.hn (C : Cx X cc nL own ret d) : xn X = nL := C.2.2.2.1
theorem Cx.hm (C : Cx X cc nL own ret d) : (xc X).maxLocals = nL := C.2.2.1
theorem wx_iconst (C : Cx X cc nL own ret d) {n : Int} (v : Int32) (hd : decode cc pc = .ok (.iconst n, 1)) (hv : Int32.ofInt n = v) (k : wx X M L (pc + 1) lv (.int v :: st)) : wx X M L pc lv st := fun H locs ls hH hS hl => lv_iconst C.hx C.hb hd hv (k H locs ls hH hS hl)
theorem wx_bipush (C : Cx X cc nL own ret d) {n : Int} (v : Int32) (hd : decode cc pc = .ok (.bipush n, 2)) (hv : (Int8.ofInt n).toInt32 = v) (k : wx X M L (pc + 2) lv (.int v :: st)) : wx X M L pc lv st := fun H locs ls hH hS hl => lv_bipush C.hx C.hb hd hv (k H locs ls hH hS hl)
theorem wx_sipush (C : Cx X cc nL own ret d) {n : Int} (v : Int32) (hd : decode cc pc = .ok (.sipush n, 3)) (hv : (Int16.ofInt n).toInt32 = v) (k : wx X M L (pc + 3) lv (.int v :: st)) : wx X M L pc lv st := fun H locs ls hH hS hl => lv_sipush C.hx C.hb hd hv (k H locs ls hH hS hl)
theorem wx_lconst (C : Cx X cc nL own ret d) {n : Fin 2} (v : Int64) (hd : decode cc pc = .ok (.lconst n, 1)) (hv : Int64.ofNat (n : Nat) = v) (k : wx X M L (pc + 1) lv (.long v :: st)) : wx X M L pc lv st := fun H locs ls hH hS hl => lv_lconst C.hx C.hb hd hv (k H locs ls hH hS hl)
theorem wx_iload_n (C : Cx X cc nL own ret d) {k : Fin 4} {i : Nat} {x : Int32} (q : Nat) (hd : decode cc pc = .ok (.iload_n k, 1)) (hi : (k : Nat) = i) (hl : lv[q]? = some (i, .int x)) (kk : wx X M L (pc + 1) lv (.int x :: st)) : wx X M L pc lv st := fun H locs ls hH hS h => lv_iload_n C.hx C.hb hd hi (lv_at h q hl) (kk H locs ls hH hS h)
theorem wx_iload (C : Cx X cc nL own ret d) {i : Nat} {x : Int32} (q : Nat) (hd : decode cc pc = .ok (.iload i, 2)) (hl : lv[q]? = some (i, .int x)) (kk : wx X M L (pc + 2) lv (.int x :: st)) : wx X M L pc lv st := fun H locs ls hH hS h => lv_iload C.hx C.hb hd (lv_at h q hl) (kk H locs ls hH hS h)
theorem wx_lload_n (C : Cx X cc nL own ret d) {k : Fin 4} {i : Nat} {x : Int64} (q : Nat) (hd : decode cc pc = .ok (.lload_n k, 1)) (hi : (k : Nat) = i) (hl : lv[q]? = some (i, .long x)) (kk : wx X M L (pc + 1) lv (.long x :: st)) : wx X M L pc lv st := fun H locs ls hH hS h => lv_lload_n C.hx C.hb hd hi (lv_at h q hl) (kk H locs ls hH hS h)
theorem wx_lload (C : Cx X cc nL own ret d) {i : Nat} {x : Int64} (q : Nat) (hd : decode cc pc = .ok (.lload i, 2)) (hl : lv[q]? = some (i, .long x)) (kk : wx X M L (pc + 2) lv (.long x :: st)) : wx X M L pc lv st := fun H locs ls hH hS h => lv_lload C.hx C.hb hd (lv_at h q hl) (kk H locs ls hH hS h)
theorem wx_aload_n (C : Cx X cc nL own ret d) {k : Fin 4} {i : Nat} {x : Nat} (q : Nat) (hd : decode cc pc = .ok (.aload_n k, 1)) (hi : (k : Nat) = i) (hl : lv[q]? = some (i, .ref x)) (kk : wx X M L (pc + 1) lv (.ref x :: st)) : wx X M L pc lv st := fun H locs ls hH hS h => lv_aload_n C.hx C.hb hd hi (lv_at h q hl) (kk H locs ls hH hS h)
theorem wx_aload (C : Cx X cc nL own ret d) {i : Nat} {x : Nat} (q : Nat) (hd : decode cc pc = .ok (.aload i, 2)) (hl : lv[q]? = some (i, .ref x)) (kk : wx X M L (pc + 2) lv (.ref x :: st)) : wx X M L pc lv st := fun H locs ls hH hS h => lv_aload C.hx C.hb hd (lv_at h q hl) (kk H locs ls hH hS h)
theorem wx_aload_nN (C : Cx X cc nL own ret d) {k : Fin 4} {i : Nat} (q : Nat) (hd : decode cc pc = .ok (.aload_n k, 1)) (hi : (k : Nat) = i) (hl : lv[q]? = some (i, .null)) (kk : wx X M L (pc + 1) lv (.null :: st)) : wx X M L pc lv st := fun H locs ls hH hS h => lv_aload_nN C.hx C.hb hd hi (lv_at h q hl) (kk H locs ls hH hS h)
/-- the listed locals behind a store: by their places in the list that the kit's row gives -/
abbrev lx1 (lv : List (Nat × Value)) (i : Nat) (v : Value) : List (Nat × Value) := (i, v) :: lv.filter (fun q => !(q.1 == i) && !(q.1 + 1 == i && q.2.category == 2))
abbrev lx2 (lv : List (Nat × Value)) (i : Nat) (v : Value) : List (Nat × Value) := (i, v) :: lv.filter (fun q => !(q.1 == i) && (!(q.1 == i + 1) && !(q.1 + 1 == i && q.2.category == 2)))
theorem wx_istore_n (C : Cx X cc nL own ret d) {k : Fin 4} {i : Nat} {x : Int32} (ks : List Nat) (lv' : List (Nat × Value)) (hd : decode cc pc = .ok (.istore_n k, 1)) (hi : (k : Nat) = i) (hn : i < nL) (hl : lv_pick (lx1 lv i (.int x)) ks = lv') (kk : wx X M L (pc + 1) lv' st) : wx X M L pc lv (.int x :: st) := fun H locs ls hH hS h => lv_istore_n C.hx C.hb hd hi h (by rw [C.hn]; exact hn) rfl (fun ls' h' => kk H locs ls' hH hS (lv_sub h' ks hl))
theorem wx_istore (C : Cx X cc nL own ret d) {i : Nat} {x : Int32} (ks : List Nat) (lv' : List (Nat × Value)) (hd : decode cc pc = .ok (.istore i, 2)) (hn : i < nL) (hl : lv_pick (lx1 lv i (.int x)) ks = lv') (kk : wx X M L (pc + 2) lv' st) : wx X M L pc lv (.int x :: st) := fun H locs ls hH hS h => lv_istore C.hx C.hb hd h (by rw [C.hn]; exact hn) rfl (fun ls' h' => kk H locs ls' hH hS (lv_sub h' ks hl))
theorem wx_lstore_n (C : Cx X cc nL own ret d) {k : Fin 4} {i : Nat} {x : Int64} (ks : List Nat) (lv' : List (Nat × Value)) (hd : decode cc pc = .ok (.lstore_n k, 1)) (hi : (k : Nat) = i) (hn : i + 1 < nL) (hl : lv_pick (lx2 lv i (.long x)) ks = lv') (kk : wx X M L (pc + 1) lv' st) : wx X M L pc lv (.long x :: st) := fun H locs ls hH hS h => lv_lstore_n C.hx C.hb hd hi h (by rw [C.hn]; exact hn) rfl (fun ls' h' => kk H locs ls' hH hS (lv_sub h' ks hl))
theorem wx_lstore (C : Cx X cc nL own ret d) {i : Nat} {x : Int64} (ks : List Nat) (lv' : List (Nat × Value)) (hd : decode cc pc = .ok (.lstore i, 2)) (hn : i + 1 < nL) (hl : lv_pick (lx2 lv i (.long x)) ks = lv') (kk : wx X M L (pc + 2) lv' st) : wx X M L pc lv (.long x :: st) := fun H locs ls hH hS h => lv_lstore C.hx C.hb hd h (by rw [C.hn]; exact hn) rfl (fun ls' h' => kk H locs ls' hH hS (lv_sub h' ks hl))
theorem wx_astore_n (C : Cx X cc nL own ret d) {k : Fin 4} {i : Nat} {x : Nat} (ks : List Nat) (lv' : List (Nat × Value)) (hd : decode cc pc = .ok (.astore_n k, 1)) (hi : (k : Nat) = i) (hn : i < nL) (hl : lv_pick (lx1 lv i (.ref x)) ks = lv') (kk : wx X M L (pc + 1) lv' st) : wx X M L pc lv (.ref x :: st) := fun H locs ls hH hS h => lv_astore_n C.hx C.hb hd hi h (by rw [C.hn]; exact hn) rfl (fun ls' h' => kk H locs ls' hH hS (lv_sub h' ks hl))
theorem wx_astore (C : Cx X cc nL own ret d) {i : Nat} {x : Nat} (ks : List Nat) (lv' : List (Nat × Value)) (hd : decode cc pc = .ok (.astore i, 2)) (hn : i < nL) (hl : lv_pick (lx1 lv i (.ref x)) ks = lv') (kk : wx X M L (pc + 2) lv' st) : wx X M L pc lv (.ref x :: st) := fun H locs ls hH hS h => lv_astore C.hx C.hb hd h (by rw [C.hn]; exact hn) rfl (fun ls' h' => kk H locs ls' hH hS (lv_sub h' ks hl))
theorem wx_iinc (C : Cx X cc nL own ret d) {i : Nat} {n : Int} {x v : Int32} (q : Nat) (ks : List Nat) (lv' : List (Nat × Value)) (hd : decode cc pc = .ok (.iinc i n, 3)) (hq : lv[q]? = some (i, .int x)) (hv : x + Int32.ofInt n = v) (hn : i < nL) (hl : lv_pick (lx1 lv i (.int v)) ks = lv') (kk : wx X M L (pc + 3) lv' st) : wx X M L pc lv st := fun H locs ls hH hS h => lv_iinc C.hx C.hb hd h hq hv (by rw [C.hn]; exact hn) rfl (fun ls' h' => kk H locs ls' hH hS (lv_sub h' ks hl))
theorem wx_iadd (C : Cx X cc nL own ret d) {x y : Int32} (hd : decode cc pc = .ok (.iadd, 1)) (k : wx X M L (pc + 1) lv (.int (x + y) :: st)) : wx X M L pc lv (.int y :: .int x :: st) := fun H locs ls hH hS h => lv_iadd C.hx C.hb hd (k H locs ls hH hS h)
theorem wx_isub (C : Cx X cc nL own ret d) {x y : Int32} (hd : decode cc pc = .ok (.isub, 1)) (k : wx X M L (pc + 1) lv (.int (x - y) :: st)) : wx X M L pc lv (.int y :: .int x :: st) := fun H locs ls hH hS h => lv_isub C.hx C.hb hd (k H locs ls hH hS h)
theorem wx_imul (C : Cx X cc nL own ret d) {x y : Int32} (hd : decode cc pc = .ok (.imul, 1)) (k : wx X M L (pc + 1) lv (.int (x * y) :: st)) : wx X M L pc lv (.int y :: .int x :: st) := fun H locs ls hH hS h => lv_imul C.hx C.hb hd (k H locs ls hH hS h)
theorem wx_iand (C : Cx X cc nL own ret d) {x y : Int32} (hd : decode cc pc = .ok (.iand, 1)) (k : wx X M L (pc + 1) lv (.int (x &&& y) :: st)) : wx X M L pc lv (.int y :: .int x :: st) := fun H locs ls hH hS h => lv_iand C.hx C.hb hd (k H locs ls hH hS h)
theorem wx_ixor (C : Cx X cc nL own ret d) {x y : Int32} (hd : decode cc pc = .ok (.ixor, 1)) (k : wx X M L (pc + 1) lv (.int (x ^^^ y) :: st)) : wx X M L pc lv (.int y :: .int x :: st) := fun H locs ls hH hS h => lv_ixor C.hx C.hb hd (k H locs ls hH hS h)
theorem wx_idiv (C : Cx X cc nL own ret d) {x y : Int32} (hd : decode cc pc = .ok (.idiv, 1)) (hne : ¬ y = 0) (k : wx X M L (pc + 1) lv (.int (x / y) :: st)) : wx X M L pc lv (.int y :: .int x :: st) := fun H locs ls hH hS h => lv_idiv C.hx C.hb hd hne (k H locs ls hH hS h)
theorem wx_irem (C : Cx X cc nL own ret d) {x y : Int32} (hd : decode cc pc = .ok (.irem, 1)) (hne : ¬ y = 0) (k : wx X M L (pc + 1) lv (.int (x - x / y * y) :: st)) : wx X M L pc lv (.int y :: .int x :: st) := fun H locs ls hH hS h => lv_irem C.hx C.hb hd hne (k H locs ls hH hS h)
theorem wx_ineg (C : Cx X cc nL own ret d) {x : Int32} (hd : decode cc pc = .ok (.ineg, 1)) (k : wx X M L (pc + 1) lv (.int (-x) :: st)) : wx X M L pc lv (.int x :: st) := fun H locs ls hH hS h => lv_ineg C.hx C.hb hd (k H locs ls hH hS h)
theorem wx_ishl (C : Cx X cc nL own ret d) {x y : Int32} (hd : decode cc pc = .ok (.ishl, 1)) (k : wx X M L (pc + 1) lv (.int (x <<< (y &&& 31)) :: st)) : wx X M L pc lv (.int y :: .int x :: st) := fun H locs ls hH hS h => lv_ishl C.hx C.hb hd (k H locs ls hH hS h)
theorem wx_ishr (C : Cx X cc nL own ret d) {x y : Int32} (hd : decode cc pc = .ok (.ishr, 1)) (k : wx X M L (pc + 1) lv (.int (x >>> (y &&& 31)) :: st)) : wx X M L pc lv (.int y :: .int x :: st) := fun H locs ls hH hS h => lv_ishr C.hx C.hb hd (k H locs ls hH hS h)
theorem wx_iushr (C : Cx X cc nL own ret d) {x y : Int32} (hd : decode cc pc = .ok (.iushr, 1)) (k : wx X M L (pc + 1) lv (.int ((x.toUInt32 >>> (y.toUInt32 &&& Int32.toUInt32 31)).toInt32) :: st)) : wx X M L pc lv (.int y :: .int x :: st) := fun H locs ls hH hS h => lv_iushr C.hx C.hb hd rfl (k H locs ls hH hS h)
theorem wx_ladd (C : Cx X cc nL own ret d) {x y : Int64} (hd : decode cc pc = .ok (.ladd, 1)) (k : wx X M L (pc + 1) lv (.long (x + y) :: st)) : wx X M L pc lv (.long y :: .long x :: st) := fun H locs ls hH hS h => lv_ladd C.hx C.hb hd (k H locs ls hH hS h)
theorem wx_lsub (C : Cx X cc nL own ret d) {x y : Int64} (hd : decode cc pc = .ok (.lsub, 1)) (k : wx X M L (pc + 1) lv (.long (x - y) :: st)) : wx X M L pc lv (.long y :: .long x :: st) := fun H locs ls hH hS h => lv_lsub C.hx C.hb hd (k H locs ls hH hS h)
theorem wx_lmul (C : Cx X cc nL own ret d) {x y : Int64} (hd : decode cc pc = .ok (.lmul, 1)) (k : wx X M L (pc + 1) lv (.long (x * y) :: st)) : wx X M L pc lv (.long y :: .long x :: st) := fun H locs ls hH hS h => lv_lmul C.hx C.hb hd (k H locs ls hH hS h)
theorem wx_ldiv (C : Cx X cc nL own ret d) {x y : Int64} (hd : decode cc pc = .ok (.ldiv, 1)) (hne : ¬ y = 0) (k : wx X M L (pc + 1) lv (.long (x / y) :: st)) : wx X M L pc lv (.long y :: .long x :: st) := fun H locs ls hH hS h => lv_ldiv C.hx C.hb hd hne (k H locs ls hH hS h)
theorem wx_lrem (C : Cx X cc nL own ret d) {x y : Int64} (hd : decode cc pc = .ok (.lrem, 1)) (hne : ¬ y = 0) (k : wx X M L (pc + 1) lv (.long (x - x / y * y) :: st)) : wx X M L pc lv (.long y :: .long x :: st) := fun H locs ls hH hS h => lv_lrem C.hx C.hb hd hne (k H locs ls hH hS h)
theorem wx_lneg (C : Cx X cc nL own ret d) {x : Int64} (hd : decode cc pc = .ok (.lneg, 1)) (k : wx X M L (pc + 1) lv (.long (-x) :: st)) : wx X M L pc lv (.long x :: st) := fun H locs ls hH hS h => lv_lneg C.hx C.hb hd (k H locs ls hH hS h)
theorem wx_lcmp (C : Cx X cc nL own ret d) {x y : Int64} (hd : decode cc pc = .ok (.lcmp, 1)) (k : wx X M L (pc + 1) lv (.int (lg_cmp x y) :: st)) : wx X M L pc lv (.long y :: .long x :: st) := fun H locs ls hH hS h => W.lcmp C.hx C.hb hd (k H locs ls hH hS h)
theorem wx_i2l (C : Cx X cc nL own ret d) {x : Int32} (hd : decode cc pc = .ok (.i2l, 1)) (k : wx X M L (pc + 1) lv (.long x.toInt64 :: st)) : wx X M L pc lv (.int x :: st) := fun H locs ls hH hS h => lv_i2l C.hx C.hb hd rfl (k H locs ls hH hS h)
theorem wx_dup (C : Cx X cc nL own ret d) {v : Value} (hd : decode cc pc = .ok (.dup, 1)) (hv : v.category = 1) (k : wx X M L (pc + 1) lv (v :: v :: st)) : wx X M L pc lv (v :: st) := fun H locs ls hH hS h => lv_dup C.hx C.hb hd hv (k H locs ls hH hS h)
theorem wx_pop (C : Cx X cc nL own ret d) {v : Value} (hd : decode cc pc = .ok (.pop, 1)) (hv : v.category = 1) (k : wx X M L (pc + 1) lv st) : wx X M L pc lv (v :: st) := fun H locs ls hH hS h => lv_pop C.hx C.hb hd hv (k H locs ls hH hS h)
theorem wx_dup2 (C : Cx X cc nL own ret d) {v w : Value} (hd : decode cc pc = .ok (.dup2, 1)) (hv : v.category = 1) (hw : w.category = 1) (k : wx X M L (pc + 1) lv (v :: w :: v :: w :: st)) : wx X M L pc lv (v :: w :: st) := fun H locs ls hH hS h => lv_dup2_11 C.hx C.hb hd hv hw (k H locs ls hH hS h)
theorem wx_goto (C : Cx X cc nL own ret d) {off : Int} (tgt : Nat) (hd : decode cc pc = .ok (.goto off, 3)) (ht : (pc : Int) + off = (tgt : Int)) (k : wx X M L tgt lv st) : wx X M L pc lv st := fun H locs ls hH hS h => lv_goto C.hx C.hb hd ht (k H locs ls hH hS h)
theorem wx_ldc2 (C : Cx X cc nL own ret d) {index : Nat} {v : Int64} (hw : Cond.constantLong own index v ∈ g_tb) (hd : decode cc pc = .ok (.ldc2_w index, 3)) (k : wx X M L (pc + 3) lv (.long v :: st)) : wx X M L pc lv st := fun H locs ls hH hS h => lv_ldc2 C.hx C.hb C.ho (C.ht _ hw) hd (k H locs ls hH hS h)
theorem wx_ldcw (C : Cx X cc nL own ret d) {index : Nat} {v : Int32} (hw : Cond.constant own index v ∈ g_tb) (hd : decode cc pc = .ok (.ldc_w index, 3)) (k : wx X M L (pc + 3) lv (.int v :: st)) : wx X M L pc lv st := fun H locs ls hH hS h => lv_ldcw C.hx C.hb C.ho (C.ht _ hw) hd (k H locs ls hH hS h)
theorem wx_tin (C : Cx X cc nL own ret d) {dflt lo hi : Int} {offs : Array Int} {len : Nat} {x : Int32} {off : Int} (tgt : Nat) (hd : decode cc pc = .ok (.tableswitch dflt lo hi offs, len)) (h1 : ¬ x.toInt < lo) (h2 : ¬ hi < x.toInt) (ho : offs[(x.toInt - lo).toNat]? = some off) (ht : (pc : Int) + off = (tgt : Int)) (k : wx X M L tgt lv st) : wx X M L pc lv (.int x :: st) := fun H locs ls hH hS h => lv_tableIn C.hx C.hb hd h1 h2 ho ht (k H locs ls hH hS h)
theorem wx_tout (C : Cx X cc nL own ret d) {dflt lo hi : Int} {offs : Array Int} {len : Nat} {x : Int32} (tgt : Nat) (hd : decode cc pc = .ok (.tableswitch dflt lo hi offs, len)) (h1 : x.toInt < lo ∨ hi < x.toInt) (ht : (pc : Int) + dflt = (tgt : Int)) (k : wx X M L tgt lv st) : wx X M L pc lv (.int x :: st) := fun H locs ls hH hS h => lv_tableOut C.hx C.hb hd h1 ht (k H locs ls hH hS h)
theorem wx_ifnonnull (C : Cx X cc nL own ret d) {x : Nat} {off : Int} (tgt : Nat) (hd : decode cc pc = .ok (.ifnonnull off, 3)) (ht : (pc : Int) + off = (tgt : Int)) (k : wx X M L tgt lv st) : wx X M L pc lv (.ref x :: st) := fun H locs ls hH hS h => lv_ifnonnull C.hx C.hb hd ht (k H locs ls hH hS h)
theorem wx_ifnonnullN (C : Cx X cc nL own ret d) {off : Int} (hd : decode cc pc = .ok (.ifnonnull off, 3)) (k : wx X M L (pc + 3) lv st) : wx X M L pc lv (.null :: st) := fun H locs ls hH hS h => lv_ifnonnullN C.hx C.hb hd (k H locs ls hH hS h)
theorem wx_if_eq (C : Cx X cc nL own ret d) {x : Int32} {off : Int} (tgt : Nat) (hd : decode cc pc = .ok (.ifCond .eq off, 3)) (ht : (pc : Int) + off = (tgt : Int)) (kt : x = 0 → wx X M L tgt lv st) (kf : ¬ x = 0 → wx X M L (pc + 3) lv st) : wx X M L pc lv (.int x :: st) := fun H locs ls hH hS h => lv_if_eq C.hx C.hb hd ht (fun q => kt q H locs ls hH hS h) (fun q => kf q H locs ls hH hS h)
theorem wx_icmp_eq (C : Cx X cc nL own ret d) {x y : Int32} {off : Int} (tgt : Nat) (hd : decode cc pc = .ok (.if_icmp .eq off, 3)) (ht : (pc : Int) + off = (tgt : Int)) (kt : x = y → wx X M L tgt lv st) (kf : ¬ x = y → wx X M L (pc + 3) lv st) : wx X M L pc lv (.int y :: .int x :: st) := fun H locs ls hH hS h => lv_icmp_eq C.hx C.hb hd ht (fun q => kt q H locs ls hH hS h) (fun q => kf q H locs ls hH hS h)
theorem wx_if_ne (C : Cx X cc nL own ret d) {x : Int32} {off : Int} (tgt : Nat) (hd : decode cc pc = .ok (.ifCond .ne off, 3)) (ht : (pc : Int) + off = (tgt : Int)) (kt : ¬ x = 0 → wx X M L tgt lv st) (kf : x = 0 → wx X M L (pc + 3) lv st) : wx X M L pc lv (.int x :: st) := fun H locs ls hH hS h => lv_if_ne C.hx C.hb hd ht (fun q => kt q H locs ls hH hS h) (fun q => kf q H locs ls hH hS h)
theorem wx_icmp_ne (C : Cx X cc nL own ret d) {x y : Int32} {off : Int} (tgt : Nat) (hd : decode cc pc = .ok (.if_icmp .ne off, 3)) (ht : (pc : Int) + off = (tgt : Int)) (kt : ¬ x = y → wx X M L tgt lv st) (kf : x = y → wx X M L (pc + 3) lv st) : wx X M L pc lv (.int y :: .int x :: st) := fun H locs ls hH hS h => lv_icmp_ne C.hx C.hb hd ht (fun q => kt q H locs ls hH hS h) (fun q => kf q H locs ls hH hS h)
theorem wx_if_lt (C : Cx X cc nL own ret d) {x : Int32} {off : Int} (tgt : Nat) (hd : decode cc pc = .ok (.ifCond .lt off, 3)) (ht : (pc : Int) + off = (tgt : Int)) (kt : x < 0 → wx X M L tgt lv st) (kf : ¬ x < 0 → wx X M L (pc + 3) lv st) : wx X M L pc lv (.int x :: st) := fun H locs ls hH hS h => lv_if_lt C.hx C.hb hd ht (fun q => kt q H locs ls hH hS h) (fun q => kf q H locs ls hH hS h)
theorem wx_icmp_lt (C : Cx X cc nL own ret d) {x y : Int32} {off : Int} (tgt : Nat) (hd : decode cc pc = .ok (.if_icmp .lt off, 3)) (ht : (pc : Int) + off = (tgt : Int)) (kt : x < y → wx X M L tgt lv st) (kf : ¬ x < y → wx X M L (pc + 3) lv st) : wx X M L pc lv (.int y :: .int x :: st) := fun H locs ls hH hS h => lv_icmp_lt C.hx C.hb hd ht (fun q => kt q H locs ls hH hS h) (fun q => kf q H locs ls hH hS h)
theorem wx_if_ge (C : Cx X cc nL own ret d) {x : Int32} {off : Int} (tgt : Nat) (hd : decode cc pc = .ok (.ifCond .ge off, 3)) (ht : (pc : Int) + off = (tgt : Int)) (kt : 0 ≤ x → wx X M L tgt lv st) (kf : ¬ 0 ≤ x → wx X M L (pc + 3) lv st) : wx X M L pc lv (.int x :: st) := fun H locs ls hH hS h => lv_if_ge C.hx C.hb hd ht (fun q => kt q H locs ls hH hS h) (fun q => kf q H locs ls hH hS h)
theorem wx_icmp_ge (C : Cx X cc nL own ret d) {x y : Int32} {off : Int} (tgt : Nat) (hd : decode cc pc = .ok (.if_icmp .ge off, 3)) (ht : (pc : Int) + off = (tgt : Int)) (kt : y ≤ x → wx X M L tgt lv st) (kf : ¬ y ≤ x → wx X M L (pc + 3) lv st) : wx X M L pc lv (.int y :: .int x :: st) := fun H locs ls hH hS h => lv_icmp_ge C.hx C.hb hd ht (fun q => kt q H locs ls hH hS h) (fun q => kf q H locs ls hH hS h)
theorem wx_if_gt (C : Cx X cc nL own ret d) {x : Int32} {off : Int} (tgt : Nat) (hd : decode cc pc = .ok (.ifCond .gt off, 3)) (ht : (pc : Int) + off = (tgt : Int)) (kt : 0 < x → wx X M L tgt lv st) (kf : ¬ 0 < x → wx X M L (pc + 3) lv st) : wx X M L pc lv (.int x :: st) := fun H locs ls hH hS h => lv_if_gt C.hx C.hb hd ht (fun q => kt q H locs ls hH hS h) (fun q => kf q H locs ls hH hS h)
theorem wx_icmp_gt (C : Cx X cc nL own ret d) {x y : Int32} {off : Int} (tgt : Nat) (hd : decode cc pc = .ok (.if_icmp .gt off, 3)) (ht : (pc : Int) + off = (tgt : Int)) (kt : y < x → wx X M L tgt lv st) (kf : ¬ y < x → wx X M L (pc + 3) lv st) : wx X M L pc lv (.int y :: .int x :: st) := fun H locs ls hH hS h => lv_icmp_gt C.hx C.hb hd ht (fun q => kt q H locs ls hH hS h) (fun q => kf q H locs ls hH hS h)
theorem wx_if_le (C : Cx X cc nL own ret d) {x : Int32} {off : Int} (tgt : Nat) (hd : decode cc pc = .ok (.ifCond .le off, 3)) (ht : (pc : Int) + off = (tgt : Int)) (kt : x ≤ 0 → wx X M L tgt lv st) (kf : ¬ x ≤ 0 → wx X M L (pc + 3) lv st) : wx X M L pc lv (.int x :: st) := fun H locs ls hH hS h => lv_if_le C.hx C.hb hd ht (fun q => kt q H locs ls hH hS h) (fun q => kf q H locs ls hH hS h)
theorem wx_icmp_le (C : Cx X cc nL own ret d) {x y : Int32} {off : Int} (tgt : Nat) (hd : decode cc pc = .ok (.if_icmp .le off, 3)) (ht : (pc : Int) + off = (tgt : Int)) (kt : x ≤ y → wx X M L tgt lv st) (kf : ¬ x ≤ y → wx X M L (pc + 3) lv st) : wx X M L pc lv (.int y :: .int x :: st) := fun H locs ls hH hS h => lv_icmp_le C.hx C.hb hd ht (fun q => kt q H locs ls hH hS h) (fun q => kf q H locs ls hH hS h)
end WX
