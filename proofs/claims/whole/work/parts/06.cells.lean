/-! Cells by name. -/
abbrev eRow (qa k : Nat) : va_E := .inr (1, [.ref qa, .int (nI k)])
abbrev eArr (cI : ClassId) (n : Nat) (g : Nat → Nat) : va_E := .inl (cI, n, .inl (fun j => nI (g j)))
def upN (g : Nat → Nat) (i x : Nat) : Nat → Nat := fun j => if j = i then x else g j
theorem upN_s (g : Nat → Nat) (i x : Nat) : upN g i x i = x := if_pos rfl
theorem upN_n {g : Nat → Nat} {i x j : Nat} (h : j ≠ i) : upN g i x j = g j := if_neg h
theorem upd_nI (g : Nat → Nat) (i x : Nat) : upd (fun j => nI (g j)) i (nI x) = fun j => nI (upN g i x j) := by
  funext j
  unfold upd upN
  split <;> rfl
theorem nzP_get {U : State} (h : nzP U) {w : Cond} (hw : w ∈ nzW) : va_Nw w U := h w hw
abbrev eCan (b1 b2 sp he air sn : Nat) : va_E := .inr (0, [.ref b1, .ref b2, .int (nI sp), .int (nI he), .int (nI air), .int (nI sn)])
abbrev eShe (qa k : Nat) : va_E := .inr (2, [.ref qa, .int (nI k)])
abbrev eArC (cC : ClassId) (n : Nat) (f : Nat → Option Nat) : va_E := .inl (cC, n, .inr (.inr (.inr (.inr f))))
abbrev eSnd (a b : Nat) : va_E := .inr (3, [.ref a, .ref b])
abbrev eTxt (a b : Nat) : va_E := .inr (4, [.ref a, .ref b])
abbrev eWay (a b : Nat) : va_E := .inr (5, [.ref a, .ref b])
abbrev eEPR (a0 a1 a2 a3 a4 a5 a6 a7 a8 a9 : Nat) : va_E := .inr (6, [.ref a0, .ref a1, .ref a2, .ref a3, .ref a4, .ref a5, .ref a6, .ref a7, .ref a8, .ref a9])
abbrev eMod (A : Nat → Nat) (len kept undo tk en pl : Nat) : va_E := .inr (7, [.int (nI len), .ref (A 1), .ref (A 2), .ref (A 3), .ref (A 4), .ref (A 5), .ref (A 6), .ref (A 7), .ref (A 8), .ref (A 9), .ref (A 10), .ref (A 11), .ref (A 12), .ref (A 13), .int (nI kept), .int (nI undo), .ref (A 14), .int (nI tk), .ref (A 15), .int (nI en), .ref (A 16), .ref (A 17), .ref (A 18), .int (nI pl), .ref (A 19), .ref (A 20), .ref (A 21), .ref (A 22)])
theorem nI_sh31 {k : Nat} (h : k < 31) : ((nI k &&& 31).toBitVec.smod 32).toNat = k := by
  have : ∀ k, k < 31 → ((nI k &&& 31).toBitVec.smod 32).toNat = k := by decide +kernel
  exact this k h
section NB
variable {p : Program} {l : Launch} {e : Env} {R : Room} {s : State} {m : MethodId} {args : Array Value} {below : List Frame} {meth : Method} {c : Code} {H H0 : Heap} {locs : List Loc} {cells slots : Nat} {Q : State → Prop} {cc : ByteArray} {pc : Nat} {ls : Array Slot} {rest : List Value}
theorem x_shl1 {k : Nat} (hx : p.tables.exec = Jvm.exec) (hb : c.code = cc) (hdg : decode cc pc = .ok (.ishl, 1)) (hk : k < 31) (kk : W p l e R s m args below meth c H locs cells slots Q (F0 m (pc + 1) ls (.int (nI (2 ^ k)) :: rest))) : W p l e R s m args below meth c H locs cells slots Q (F0 m pc ls (.int (nI k) :: .int (nI 1) :: rest)) :=
  lv_ishl hx hb hdg (by rw [pk_shlN (n := 1) _ k (nI_sh31 hk) (by rw [Nat.one_mul]; exact Nat.pow_lt_pow_right (by omega) (by omega)), Nat.one_mul]; exact kk)
theorem x_ishr {a k : Nat} (hx : p.tables.exec = Jvm.exec) (hb : c.code = cc) (hdg : decode cc pc = .ok (.ishr, 1)) (ha : a < 2147483648) (hk : k < 31) (kk : W p l e R s m args below meth c H locs cells slots Q (F0 m (pc + 1) ls (.int (nI (a / 2 ^ k)) :: rest))) : W p l e R s m args below meth c H locs cells slots Q (F0 m pc ls (.int (nI k) :: .int (nI a) :: rest)) :=
  lv_ishr hx hb hdg (by rw [pk_shrN ha _ k (nI_sh31 hk)]; exact kk)
theorem x_iand1 {a : Nat} (hx : p.tables.exec = Jvm.exec) (hb : c.code = cc) (hdg : decode cc pc = .ok (.iand, 1)) (kk : W p l e R s m args below meth c H locs cells slots Q (F0 m (pc + 1) ls (.int (nI (a % 2)) :: rest))) : W p l e R s m args below meth c H locs cells slots Q (F0 m pc ls (.int (nI 1) :: .int (nI a) :: rest)) :=
  lv_iand hx hb hdg (by
    have e : nI a &&& nI 1 = nI (a % 2) := by
      rw [pk_and (nI a) 1 (m := nI 1) (by decide)]
      have h2 : (nI a).toBitVec.toNat = a % 4294967296 := by
        show (BitVec.ofNat 32 a).toNat = _
        rw [BitVec.toNat_ofNat]
      rw [h2]
      congr 1
      omega
    rw [e]; exact kk)
end NB
/-- an array's contents told otherwise, where they agree on its places -/
theorem va_P_arr {D : va_G} {H : Heap} {ws : va_W} {a n : Nat} {cI : ClassId} {g g' : Nat → Nat} (h : va_P D vwCl ws H) (k : Nat) (hk : ws[k]? = some (a, eArr cI n g)) (e : ∀ j, j < n → g j = g' j) : va_P D vwCl (ws.set k (a, eArr cI n g')) H := by
  intro i q hq
  by_cases hi : i = k
  · subst hi
    rw [List.getElem?_set_self (List.getElem?_eq_some_iff.mp hk).1] at hq
    cases hq
    have h1 : H[a]? = some (vp_cell cI (n, .inl (fun j => nI (g j)))) := h i _ hk
    show H[a]? = some (vp_cell cI (n, .inl (fun j => nI (g' j))))
    rw [h1]
    congr 1
    rw [vp_cell_i, vp_cell_i]
    unfold arrV
    congr 1
    apply Array.ext
    · simp
    · intro j h1 h2
      simp only [Array.size_ofFn] at h1
      simp only [Array.getElem_ofFn]
      rw [e j h1]
  · rw [List.getElem?_set_ne (Ne.symm hi)] at hq
    exact h i q hq
