/-! Rows for the reference: longs that hold an int, its cells. -/
def lI (z : Int) : Int64 := Int64.ofInt z
theorem lN_lI (n : Nat) : lN n = lI (n : Int) := Int64.ofInt_eq_ofNat.symm
theorem lI_toInt {z : Int} (h : -2147483648 ≤ z) (h2 : z < 2147483648) : (lI z).toInt = z := Int64.toInt_ofInt_of_le (by omega) (by omega)
theorem iI_l {z : Int} (h : -2147483648 ≤ z) (h2 : z < 2147483648) : (iI z).toInt64 = lI z := by
  apply Int64.toInt_inj.1
  rw [Int32.toInt_toInt64, iI_toInt h h2, lI_toInt h h2]
section CR
variable {p : Program} {l : Launch} {e : Env} {R : Room} {s : State} {m : MethodId} {args : Array Value} {below : List Frame} {meth : Method} {c : Code} {H H0 : Heap} {locs : List Loc} {cells slots : Nat} {Q : State → Prop} {cc : ByteArray} {pc : Nat} {ls : Array Slot} {rest : List Value}
theorem z_i2l {a : Int} (hx : p.tables.exec = Jvm.exec) (hb : c.code = cc) (hdg : decode cc pc = .ok (.i2l, 1)) (h : -2147483648 ≤ a ∧ a < 2147483648) (k : W p l e R s m args below meth c H locs cells slots Q (F0 m (pc + 1) ls (.long (lI a) :: rest))) : W p l e R s m args below meth c H locs cells slots Q (F0 m pc ls (.int (iI a) :: rest)) :=
  lv_i2l hx hb hdg (iI_l h.1 h.2) k
theorem c_if_lt {a b : Int} {off : Int} {tgt : Nat} (hx : p.tables.exec = Jvm.exec) (hb : c.code = cc) (hdg : decode cc pc = .ok (.ifCond .lt off, 3)) (ht : (pc : Int) + off = (tgt : Int)) (ha : -2147483648 ≤ a ∧ a < 2147483648) (hb2 : -2147483648 ≤ b ∧ b < 2147483648) (kt : a < b → W p l e R s m args below meth c H locs cells slots Q (F0 m tgt ls rest)) (kf : b ≤ a → W p l e R s m args below meth c H locs cells slots Q (F0 m (pc + 3) ls rest)) : W p l e R s m args below meth c H locs cells slots Q (F0 m pc ls (.int (lg_cmp (lI a) (lI b)) :: rest)) := by
  have e := lg_cmp_ge (lI a) (lI b)
  rw [Int64.le_iff_toInt_le, lI_toInt ha.1 ha.2, lI_toInt hb2.1 hb2.2] at e
  have e2 : lg_cmp (lI a) (lI b) < 0 ↔ ¬ 0 ≤ lg_cmp (lI a) (lI b) := by rw [Int32.lt_iff_toInt_lt, Int32.le_iff_toInt_le]; omega
  exact lv_if_lt hx hb hdg ht (fun h => kt (by have h1 := e2.mp h; rw [e] at h1; omega)) (fun h => kf (by rw [← e]; rw [e2] at h; exact Classical.byContradiction h))
theorem c_if_gt {a b : Int} {off : Int} {tgt : Nat} (hx : p.tables.exec = Jvm.exec) (hb : c.code = cc) (hdg : decode cc pc = .ok (.ifCond .gt off, 3)) (ht : (pc : Int) + off = (tgt : Int)) (ha : -2147483648 ≤ a ∧ a < 2147483648) (hb2 : -2147483648 ≤ b ∧ b < 2147483648) (kt : b < a → W p l e R s m args below meth c H locs cells slots Q (F0 m tgt ls rest)) (kf : a ≤ b → W p l e R s m args below meth c H locs cells slots Q (F0 m (pc + 3) ls rest)) : W p l e R s m args below meth c H locs cells slots Q (F0 m pc ls (.int (lg_cmp (lI a) (lI b)) :: rest)) := by
  have e := lg_cmp_gt (lI a) (lI b)
  rw [Int64.lt_iff_toInt_lt, lI_toInt ha.1 ha.2, lI_toInt hb2.1 hb2.2] at e
  exact lv_if_gt hx hb hdg ht (fun h => kt (e.mp h)) (fun h => kf (by have h1 : ¬ b < a := fun h2 => h (e.mpr h2); omega))
end CR
set_option maxRecDepth 100000 in
theorem popM_pred : ∀ n, n < 4096 → n ≠ 0 → popM (n &&& (n - 1)) + 1 = popM n := by decide +kernel
theorem popM_0 : popM 0 = 0 := by decide +kernel
/-- how the reference holds CLIFFS and WORDS -/
def relC (pq dq kq cl : Nat → Nat) (nc : Nat) : Prop := ∀ f, f < nc → pq f = cl (3 * f + 0) ∧ dq f = cl (3 * f + 1) ∧ kq f = cl (3 * f + 2)
def relD (be va lo wd : Nat → Nat) (nw : Nat) : Prop := ∀ w, w < nw → be w = wd (3 * w + 0) ∧ va w = wd (3 * w + 1) ∧ lo w = wd (3 * w + 2)
theorem carryM_app (S : Snd) (t v l : Nat) (L1 L2 : List (Nat × Nat)) : carryM S t v l (L1 ++ L2) = carryM (carryM S t v l L1) t v l L2 := List.foldl_append
theorem quiet_step {g : Nat → Nat} {i : Nat} (h : ∀ j, j < i → g j = 0) : ∀ j, j < i + 1 → upN g i 0 j = 0 := fill_step h
