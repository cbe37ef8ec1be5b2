/-! ===== names for values; the kit's Math rows; rows by places ===== -/
section WM
variable {X : g_X} {cc : ByteArray} {nL : Nat} {own : String} {ret : Option FieldType} {d : Nat} {M : g_M} {L : g_L} {pc : Nat} {lv : List (Nat × Value)} {st : List Value}
theorem wx_nmi {x : Int32} (k : ∀ y : Int32, y = x → wx X M L pc lv (.int y :: st)) : wx X M L pc lv (.int x :: st) := k x rfl
theorem wx_nml {x : Int64} (k : ∀ y : Int64, y = x → wx X M L pc lv (.long y :: st)) : wx X M L pc lv (.long x :: st) := k x rfl
theorem wx_nmM (k : ∀ M1 : g_M, M1 = M → wx X M1 L pc lv st) : wx X M L pc lv st := k M rfl
theorem wx_nmL (k : ∀ L1 : g_L, L1 = L → wx X M L1 pc lv st) : wx X M L pc lv st := k L rfl
theorem wx_mabs (C : Cx X cc nL own ret d) {index : Nat} {x : Int32} (hw : Cond.methodLink own index Lib.Math.abs.name ∈ g_tb) (w1 : Cond.static Lib.Math.abs.name ∈ g_tb) (w2 : Cond.initialized "java/lang/Math" ∈ g_tb) (w3 : Cond.code Lib.Math.abs.name Lib.Math.abs.code 1 (some .int) ∈ g_tb) (hd1 : 1 ≤ d) (hcat : (st.map fun v => v.category).sum ≤ 8) (hd : decode cc pc = .ok (.invokestatic index, 3)) (kk : wx X M L (pc + 3) lv (.int (if 0 ≤ x then x else 0 - x) :: st)) : wx X M L pc lv (.int x :: st) :=
  fun H locs ls hH hS h => va_mabs C.hx C.hb (by rw [C.hm, h.1, C.hn]) C.ho (C.ht _ hw) (C.ht _ w1) (C.ht _ w2) (C.ht _ w3) (Nat.le_trans hd1 C.hd.1) (by have := C.hd.2; omega) C.hc.1 C.hc.2 hd (kk H locs ls hH hS h)
theorem wx_mmaxl (C : Cx X cc nL own ret d) {index : Nat} {x y : Int64} (hw : Cond.methodLink own index Lib.MathLoose.max_long.x ∈ g_tb) (w1 : Cond.static Lib.MathLoose.max_long.x ∈ g_tb) (w2 : Cond.initialized "java/lang/Math" ∈ g_tb) (w3 : Cond.code Lib.MathLoose.max_long.x Lib.MathLoose.max_long.code 4 (some .long) ∈ g_tb) (hd1 : 1 ≤ d) (hcat : (st.map fun v => v.category).sum ≤ 8) (hd : decode cc pc = .ok (.invokestatic index, 3)) (kk : wx X M L (pc + 3) lv (.long (if y < x then x else y) :: st)) : wx X M L pc lv (.long y :: .long x :: st) :=
  fun H locs ls hH hS h => va_mmax_long C.hx C.hb (by rw [C.hm, h.1, C.hn]) C.ho (C.ht _ hw) (C.ht _ w1) (C.ht _ w2) (C.ht _ w3) (Nat.le_trans hd1 C.hd.1) (by have := C.hd.2; omega) C.hc.1 C.hc.2 hd (kk H locs ls hH hS h)
theorem wx_mminl (C : Cx X cc nL own ret d) {index : Nat} {x y : Int64} (hw : Cond.methodLink own index Lib.MathLoose.min_long.x ∈ g_tb) (w1 : Cond.static Lib.MathLoose.min_long.x ∈ g_tb) (w2 : Cond.initialized "java/lang/Math" ∈ g_tb) (w3 : Cond.code Lib.MathLoose.min_long.x Lib.MathLoose.min_long.code 4 (some .long) ∈ g_tb) (hd1 : 1 ≤ d) (hcat : (st.map fun v => v.category).sum ≤ 8) (hd : decode cc pc = .ok (.invokestatic index, 3)) (kk : wx X M L (pc + 3) lv (.long (if y < x then y else x) :: st)) : wx X M L pc lv (.long y :: .long x :: st) :=
  fun H locs ls hH hS h => va_mmin_long C.hx C.hb (by rw [C.hm, h.1, C.hn]) C.ho (C.ht _ hw) (C.ht _ w1) (C.ht _ w2) (C.ht _ w3) (Nat.le_trans hd1 C.hd.1) (by have := C.hd.2; omega) C.hc.1 C.hc.2 hd (kk H locs ls hH hS h)
theorem wx_mabsl (C : Cx X cc nL own ret d) {index : Nat} {x : Int64} (hw : Cond.methodLink own index Lib.MathLoose.abs_long.x ∈ g_tb) (w1 : Cond.static Lib.MathLoose.abs_long.x ∈ g_tb) (w2 : Cond.initialized "java/lang/Math" ∈ g_tb) (w3 : Cond.code Lib.MathLoose.abs_long.x Lib.MathLoose.abs_long.code 2 (some .long) ∈ g_tb) (hd1 : 1 ≤ d) (hcat : (st.map fun v => v.category).sum ≤ 8) (hd : decode cc pc = .ok (.invokestatic index, 3)) (kk : wx X M L (pc + 3) lv (.long (if 0 < x then x else -x) :: st)) : wx X M L pc lv (.long x :: st) :=
  fun H locs ls hH hS h => va_mabs_long C.hx C.hb (by rw [C.hm, h.1, C.hn]) C.ho (C.ht _ hw) (C.ht _ w1) (C.ht _ w2) (C.ht _ w3) (Nat.le_trans hd1 C.hd.1) (by have := C.hd.2; omega) C.hc.1 C.hc.2 hd (kk H locs ls hH hS h)
theorem wx_anull (C : Cx X cc nL own ret d) (hd : decode cc pc = .ok (.aconst_null, 1)) (k : wx X M L (pc + 1) lv (.null :: st)) : wx X M L pc lv st := fun H locs ls hH hS hl => lv_null C.hx C.hb hd (k H locs ls hH hS hl)
end WM
theorem rw_14 : g_row 14 := Or.inl rfl
theorem rw_147 : g_row 147 := Or.inr (Or.inl rfl)
theorem rw_w {p : Nat} (h : p < 12) : g_row (19 + 3 * p) := Or.inr (Or.inr (Or.inl ⟨p, h, rfl⟩))
theorem rw_a {i : Nat} (h : i < 30) : g_row (57 + 3 * i) := Or.inr (Or.inr (Or.inr ⟨i, h, rfl⟩))
theorem g_row_lt1 {k : Nat} (h : g_row k) : k < 168 := by have := g_row_lt h; omega
theorem g_row_lt2 {k : Nat} (h : g_row k) : k + 1 < 168 := g_row_lt h
theorem sw_ne {x : Int32} {n : Nat} (hn : n < 2 ^ 31) (h : ¬ x = nI n) : x.toInt ≠ (n : Int) := fun e => h (Int32.toInt_inj.mp (by rw [nI_toInt hn]; exact e))
theorem sw_out4 {x : Int32} (h : ¬ (x = 0 ∨ x = 1 ∨ x = 2 ∨ x = 3)) : x.toInt < 0 ∨ 3 < x.toInt := by
  have h0 := sw_ne (x := x) (n := 0) (by decide) (fun e => h (Or.inl e))
  have h1 := sw_ne (x := x) (n := 1) (by decide) (fun e => h (Or.inr (Or.inl e)))
  have h2 := sw_ne (x := x) (n := 2) (by decide) (fun e => h (Or.inr (Or.inr (Or.inl e))))
  have h3 := sw_ne (x := x) (n := 3) (by decide) (fun e => h (Or.inr (Or.inr (Or.inr e))))
  omega
theorem sw_out6 {x : Int32} (h : ¬ (x = 0 ∨ x = 1 ∨ x = 2 ∨ x = 3 ∨ x = 4 ∨ x = 5)) : x.toInt < 0 ∨ 5 < x.toInt := by
  have h0 := sw_ne (x := x) (n := 0) (by decide) (fun e => h (Or.inl e))
  have h1 := sw_ne (x := x) (n := 1) (by decide) (fun e => h (Or.inr (Or.inl e)))
  have h2 := sw_ne (x := x) (n := 2) (by decide) (fun e => h (Or.inr (Or.inr (Or.inl e))))
  have h3 := sw_ne (x := x) (n := 3) (by decide) (fun e => h (Or.inr (Or.inr (Or.inr (Or.inl e)))))
  have h4 := sw_ne (x := x) (n := 4) (by decide) (fun e => h (Or.inr (Or.inr (Or.inr (Or.inr (Or.inl e))))))
  have h5 := sw_ne (x := x) (n := 5) (by decide) (fun e => h (Or.inr (Or.inr (Or.inr (Or.inr (Or.inr e))))))
  omega
theorem sw_out8 {x : Int32} (h : ¬ (x = 0 ∨ x = 1 ∨ x = 2 ∨ x = 3 ∨ x = 4 ∨ x = 5 ∨ x = 6 ∨ x = 7)) : x.toInt < 0 ∨ 7 < x.toInt := by
  have h0 := sw_ne (x := x) (n := 0) (by decide) (fun e => h (Or.inl e))
  have h1 := sw_ne (x := x) (n := 1) (by decide) (fun e => h (Or.inr (Or.inl e)))
  have h2 := sw_ne (x := x) (n := 2) (by decide) (fun e => h (Or.inr (Or.inr (Or.inl e))))
  have h3 := sw_ne (x := x) (n := 3) (by decide) (fun e => h (Or.inr (Or.inr (Or.inr (Or.inl e)))))
  have h4 := sw_ne (x := x) (n := 4) (by decide) (fun e => h (Or.inr (Or.inr (Or.inr (Or.inr (Or.inl e))))))
  have h5 := sw_ne (x := x) (n := 5) (by decide) (fun e => h (Or.inr (Or.inr (Or.inr (Or.inr (Or.inr (Or.inl e)))))))
  have h6 := sw_ne (x := x) (n := 6) (by decide) (fun e => h (Or.inr (Or.inr (Or.inr (Or.inr (Or.inr (Or.inr (Or.inl e))))))))
  have h7 := sw_ne (x := x) (n := 7) (by decide) (fun e => h (Or.inr (Or.inr (Or.inr (Or.inr (Or.inr (Or.inr (Or.inr e))))))))
  omega
