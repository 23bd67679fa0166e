section ZR
variable {p : Program} {l : Launch} {e : Env} {R : Room} {s : State} {m : MethodId} {args : Array Value} {below : List Frame} {meth : Method} {c : Code} {H H0 : Heap} {locs : List Loc} {cells slots : Nat} {Q : State → Prop} {cc : ByteArray} {pc : Nat} {ls : Array Slot} {rest : List Value}
theorem z_iadd {a b : Int} (hx : p.tables.exec = Jvm.exec) (hb : c.code = cc) (hdg : decode cc pc = .ok (.iadd, 1)) (k : W p l e R s m args below meth c H locs cells slots Q (F0 m (pc + 1) ls (.int (iI (a + b)) :: rest))) : W p l e R s m args below meth c H locs cells slots Q (F0 m pc ls (.int (iI b) :: .int (iI a) :: rest)) :=
  lv_iadd hx hb hdg (by rw [iI_add]; exact k)
theorem z_isub {a b : Int} (hx : p.tables.exec = Jvm.exec) (hb : c.code = cc) (hdg : decode cc pc = .ok (.isub, 1)) (k : W p l e R s m args below meth c H locs cells slots Q (F0 m (pc + 1) ls (.int (iI (a - b)) :: rest))) : W p l e R s m args below meth c H locs cells slots Q (F0 m pc ls (.int (iI b) :: .int (iI a) :: rest)) :=
  lv_isub hx hb hdg (by rw [iI_sub]; exact k)
theorem z_imul {a b : Int} (hx : p.tables.exec = Jvm.exec) (hb : c.code = cc) (hdg : decode cc pc = .ok (.imul, 1)) (k : W p l e R s m args below meth c H locs cells slots Q (F0 m (pc + 1) ls (.int (iI (a * b)) :: rest))) : W p l e R s m args below meth c H locs cells slots Q (F0 m pc ls (.int (iI b) :: .int (iI a) :: rest)) :=
  lv_imul hx hb hdg (by rw [iI_mul]; exact k)
theorem nI_and (a b : Nat) : nI a &&& nI b = nI (a &&& b) := Int32.toBitVec_inj.1 (show BitVec.ofNat 32 a &&& BitVec.ofNat 32 b = BitVec.ofNat 32 (a &&& b) from BitVec.ofNat_and.symm)
theorem nI_or (a b : Nat) : nI a ||| nI b = nI (a ||| b) := Int32.toBitVec_inj.1 (show BitVec.ofNat 32 a ||| BitVec.ofNat 32 b = BitVec.ofNat 32 (a ||| b) from BitVec.ofNat_or.symm)
theorem x_iandN {a b : Nat} (hx : p.tables.exec = Jvm.exec) (hb : c.code = cc) (hdg : decode cc pc = .ok (.iand, 1)) (k : W p l e R s m args below meth c H locs cells slots Q (F0 m (pc + 1) ls (.int (nI (a &&& b)) :: rest))) : W p l e R s m args below meth c H locs cells slots Q (F0 m pc ls (.int (nI b) :: .int (nI a) :: rest)) :=
  lv_iand hx hb hdg (by rw [nI_and]; exact k)
theorem x_iorN {a b : Nat} (hx : p.tables.exec = Jvm.exec) (hb : c.code = cc) (hdg : decode cc pc = .ok (.ior, 1)) (k : W p l e R s m args below meth c H locs cells slots Q (F0 m (pc + 1) ls (.int (nI (a ||| b)) :: rest))) : W p l e R s m args below meth c H locs cells slots Q (F0 m pc ls (.int (nI b) :: .int (nI a) :: rest)) :=
  lv_ior hx hb hdg (by rw [nI_or]; exact k)
theorem x_iand3 {a : Nat} (hx : p.tables.exec = Jvm.exec) (hb : c.code = cc) (hdg : decode cc pc = .ok (.iand, 1)) (k : W p l e R s m args below meth c H locs cells slots Q (F0 m (pc + 1) ls (.int (nI (a % 4)) :: rest))) : W p l e R s m args below meth c H locs cells slots Q (F0 m pc ls (.int (nI 3) :: .int (nI a) :: rest)) :=
  x_iandN hx hb hdg (by rw [show a &&& 3 = a % 4 from Nat.and_two_pow_sub_one_eq_mod a 2]; exact k)
end ZR
/-- what comes at one beat alone: how loud, what -/
def comeP (p : Nat × Nat) (z : Int) (v : Nat) : Nat × Nat := if z ≤ 0 ∨ z < (p.1 : Int) then p else (z.toNat, if z = (p.1 : Int) ∧ ¬ p.2 = v then 8 else v)
theorem comeM_at {S : Snd} {b : Nat} {z : Int} {v : Nat} (hb : b < 150) : ((comeM S b z v).1 b, (comeM S b z v).2 b) = comeP (S.1 b, S.2 b) z v := by
  unfold comeM comeP
  dsimp only
  by_cases h : z ≤ 0 ∨ z < (S.1 b : Int)
  · rw [if_pos (by omega), if_pos h]
  · rw [if_neg (by omega), if_neg h]
    dsimp only
    rw [upN_s, upN_s]
def carryP (p : Nat × Nat) (b t v l : Nat) (L : List (Nat × Nat)) : Nat × Nat := L.foldl (fun p w => if t + w.1 = b then comeP p ((l : Int) - (w.2 : Int)) v else p) p
theorem carryP_s {bt lw : Nat → Nat} {L : List (Nat × Nat)} (h : repW bt lw L) {i : Nat} (hi : i < lenW L) (p : Nat × Nat) (b t v l : Nat) : carryP p b t v l (L.take (i + 1)) = if t + bt i = b then comeP (carryP p b t v l (L.take i)) ((l : Int) - (lw i : Int)) v else carryP p b t v l (L.take i) := by
  have hj := h i hi
  rw [hj.1, hj.2.1]
  have e : L.take (i + 1) = L.take i ++ [L.getD i (0, 0)] := by
    rw [List.take_add_one, List.getD_eq_getElem?_getD, List.getElem?_eq_getElem (show i < L.length from hi)]; rfl
  unfold carryP
  rw [e, List.foldl_append]; rfl
theorem carryP_all (p : Nat × Nat) (b t v l : Nat) (L : List (Nat × Nat)) : carryP p b t v l (L.take (lenW L)) = carryP p b t v l L := by unfold lenW; rw [List.take_length]
/-- what is heard at a beat of the words of a script's first k beats -/
def hosP (L : List (Nat × Nat)) (b : Nat) (ln : Nat → Nat) : Nat → Nat × Nat
  | 0 => (0, 0)
  | k + 1 => if 0 < ln k then carryP (hosP L b ln k) b k (ln k) 50 L else hosP L b ln k
theorem hosP_t {L : List (Nat × Nat)} {b : Nat} {ln : Nat → Nat} {k : Nat} (h : 0 < ln k) : hosP L b ln (k + 1) = carryP (hosP L b ln k) b k (ln k) 50 L := if_pos h
theorem hosP_f {L : List (Nat × Nat)} {b : Nat} {ln : Nat → Nat} {k : Nat} (h : ln k ≤ 0) : hosP L b ln (k + 1) = hosP L b ln k := if_neg (by omega)
theorem comeP_le {p : Nat × Nat} {z : Int} {v : Nat} (h : p.2 ≤ 8) (hv : v ≤ 8) : (comeP p z v).2 ≤ 8 := by
  unfold comeP; split
  · exact h
  · dsimp only; split <;> omega
theorem carryP_le {b t v l : Nat} (hv : v ≤ 8) (L : List (Nat × Nat)) : ∀ p : Nat × Nat, p.2 ≤ 8 → (carryP p b t v l L).2 ≤ 8 := by
  unfold carryP
  induction L with
  | nil => intro p h; exact h
  | cons a L ih =>
    intro p h
    refine ih _ ?_
    show (if t + a.1 = b then comeP p ((l : Int) - (a.2 : Int)) v else p).2 ≤ 8
    split
    · exact comeP_le h hv
    · exact h
theorem hosP_le (L : List (Nat × Nat)) (b : Nat) (ln : Nat → Nat) (h : ∀ q, ln q ≤ 8) (k : Nat) : (hosP L b ln k).2 ≤ 8 := by
  induction k with
  | zero => exact Nat.zero_le _
  | succ k ih =>
    show (if 0 < ln k then _ else _ : Nat × Nat).2 ≤ 8
    split
    · exact carryP_le (h k) L _ ih
    · exact ih
def lineM (script n i : Nat) : Nat := script / 2 ^ (2 * (n - 1 - i)) % 4
def wiM (script : Nat) : Nat := popM ((script ||| (script / 2 ^ 1)) &&& 1365)
def gtB (L : List (Nat × Nat)) (b0 script n : Nat) (tk : Nat → Nat) : Nat → Bool := fun i => decide ((hosP L (b0 + i) (lineM script n) (i + 1)).2 = tk i)
def gtM (L : List (Nat × Nat)) (b0 script n : Nat) (tk : Nat → Nat) : Bool := allB (gtB L b0 script n tk) n
/-- the first of the scripts of fewest words -/
def bsM (ok : Nat → Bool) : Nat → Int × Nat
  | 0 => (-4, 7)
  | s + 1 => if wiM s < (bsM ok s).2 ∧ ok s = true then ((s : Int), wiM s) else bsM ok s
theorem bsM_t {ok : Nat → Bool} {s : Nat} (h : wiM s < (bsM ok s).2) (h2 : ok s = true) : bsM ok (s + 1) = ((s : Int), wiM s) := if_pos ⟨h, h2⟩
theorem bsM_f {ok : Nat → Bool} {s : Nat} (h : (bsM ok s).2 ≤ wiM s ∨ ok s = false) : bsM ok (s + 1) = bsM ok s := if_neg (by
  intro hh
  rcases h with h | h
  · omega
  · rw [h] at hh; exact absurd hh.2 (by decide))
theorem wiM_le (s : Nat) : wiM s ≤ 12 := cntM_le _ 12
theorem bsM_bd (ok : Nat → Bool) (n : Nat) : -4 ≤ (bsM ok n).1 ∧ (bsM ok n).1 < (n : Int) + 1 ∧ (bsM ok n).2 ≤ 12 := by
  induction n with
  | zero => exact ⟨by show (-4 : Int) ≤ -4; omega, by show (-4 : Int) < (0 : Int) + 1; omega, by show 7 ≤ 12; omega⟩
  | succ s ih =>
    have h1 := wiM_le s
    by_cases h : wiM s < (bsM ok s).2 ∧ ok s = true
    · rw [bsM_t h.1 h.2]; dsimp only; omega
    · rw [show bsM ok (s + 1) = bsM ok s from if_neg h]; omega
theorem pow12 {n : Nat} (h : n ≤ 6) : 2 ^ (2 * n) ≤ 4096 := by
  have := Nat.pow_le_pow_right (n := 2) (by omega) (show 2 * n ≤ 12 by omega)
  simpa using this

set_option maxRecDepth 100000 in
set_option maxHeartbeats 4000000 in
theorem c_X3_carryTo (l : Launch) (D : va_G) (cI cC : ClassId) (s0 : Nat) (v1 : Nat) (va : Nat) (l1 : Nat) (la : Nat) (S : Snd) (w0 : Nat) (wb : Nat) (bb : Nat) (wl : Nat) (bl : Nat) (bt : Nat → Nat) (lw : Nat → Nat) (L : List (Nat × Nat)) (b : Nat) (t : Nat) (v : Nat) (lv : Nat) (hb1 : b < 150) (ht : t ≤ 1000) (hv : v < 1000) (hl0 : lv ≤ 1000) (hS0 : okS S) (hrep : repW bt lw L) (hL9 : lenW L ≤ 9) : mtV l D cI cC yX3_carryTo wsX3_carryTo ({ frames := 2, cells := 0, slots := 0, locals := 47 }) [.ref s0, .int (nI b), .int (nI t), .int (nI v), .int (nI lv), .ref w0] [(s0, eSnd v1 l1), (v1, eRow va 150), (va, eArr cI 150 S.2), (l1, eRow la 150), (la, eArr cI 150 S.1), (w0, eWay wb wl), (wb, eRow bb (lenW L)), (bb, eArr cI 9 bt), (wl, eRow bl (lenW L)), (bl, eArr cI 9 lw)] (fun (S' : Snd) => okS S' ∧ (S'.1 b, S'.2 b) = carryP (S.1 b, S.2 b) b t v lv L) (fun (S' : Snd) => [(s0, eSnd v1 l1), (v1, eRow va 150), (va, eArr cI 150 S'.2), (l1, eRow la 150), (la, eArr cI 150 S'.1), (w0, eWay wb wl), (wb, eRow bb (lenW L)), (bb, eArr cI 9 bt), (wl, eRow bl (lenW L)), (bl, eArr cI 9 lw)]) := by
  refine mtV_of (cc := cX3_carryTo) (maxL := 7) (ret := none) (by decide) rfl rfl ?_
  intro p e s m below meth c A hx hb hml hr hts hown hlocks hN hA hK hP hD hS ls hl
  have hown : s.vm.findClass RX3 = some m.cls := hown
  have hl : lv_has ls 7 [(0, .ref s0), (1, .int (nI b)), (2, .int (nI t)), (3, .int (nI v)), (4, .int (nI lv)), (5, .ref w0)] := hl
  obtain ⟨H, hHe⟩ : ∃ H, H = s.heap := ⟨_, rfl⟩
  rw [← hHe] at hP ⊢
  have hS : va_S A s.heap H [] := by rw [hHe]; exact va_S.rf
  refine lv_iconst (v := (nI 0)) hx hb dX3_carryTo_0 (by decide) ?_
  refine lv_istore (lv' := [(6, .int (nI 0)), (0, .ref s0), (1, .int (nI b)), (2, .int (nI t)), (3, .int (nI v)), (4, .int (nI lv)), (5, .ref w0)]) hx hb dX3_carryTo_1 hl (by decide) rfl (fun ls hl => ?_)
  have loop3 : ∀ (nn3 : Nat) (i : Nat) (S' : Snd), lenW L - i < nn3 → (i ≤ lenW L) → (okS S') → ((S'.1 b, S'.2 b) = carryP (S.1 b, S.2 b) b t v lv (L.take i)) → ∀ (H : Heap) (locs : List Loc), va_P D vwCl [(s0, eSnd v1 l1), (v1, eRow va 150), (va, eArr cI 150 S'.2), (l1, eRow la 150), (la, eArr cI 150 S'.1), (w0, eWay wb wl), (wb, eRow bb (lenW L)), (bb, eArr cI 9 bt), (wl, eRow bl (lenW L)), (bl, eArr cI 9 lw)] H → va_D A [(s0, eSnd v1 l1), (v1, eRow va 150), (va, eArr cI 150 S'.2), (l1, eRow la 150), (la, eArr cI 150 S'.1), (w0, eWay wb wl), (wb, eRow bb (lenW L)), (bb, eArr cI 9 bt), (wl, eRow bl (lenW L)), (bl, eArr cI 9 lw)] → va_S A s.heap H locs → ∀ ls : Array Slot, lv_has ls 7 [(6, .int (nI i)), (0, .ref s0), (1, .int (nI b)), (2, .int (nI t)), (3, .int (nI v)), (4, .int (nI lv)), (5, .ref w0)] → W p l e (headSpec wsX3_carryTo ({ frames := 2, cells := 0, slots := 0, locals := 47 })).room s m ([.ref s0, .int (nI b), .int (nI t), .int (nI v), .int (nI lv), .ref w0] : List Value).toArray below meth c H locs 0 0 (MQ below (va_Qv (fun (S' : Snd) => okS S' ∧ (S'.1 b, S'.2 b) = carryP (S.1 b, S.2 b) b t v lv L) (ctB D cI cC (fun (S' : Snd) => [(s0, eSnd v1 l1), (v1, eRow va 150), (va, eArr cI 150 S'.2), (l1, eRow la 150), (la, eArr cI 150 S'.1), (w0, eWay wb wl), (wb, eRow bb (lenW L)), (bb, eArr cI 9 bt), (wl, eRow bl (lenW L)), (bl, eArr cI 9 lw)]) A) A) ([.ref s0, .int (nI b), .int (nI t), .int (nI v), .int (nI lv), .ref w0] : List Value).toArray s 0 0 A) (F0 m 3 ls []) := by
    intro nn3
    induction nn3 with
    | zero =>
      intro i S' hm1
      exact absurd hm1 (Nat.not_lt_zero _)
    | succ nn3 ih3 =>
      intro i S' hm1 hi2 hos hcp H locs hP hD hS ls hl
      refine lv_iload hx hb dX3_carryTo_3 (lv_at hl 0 rfl) ?_
      refine lv_aload hx hb dX3_carryTo_5 (lv_at hl 6 rfl) ?_
      refine k_V (q := (RX5, TX5, 2)) (ci := 5) (As := []) (wr := [(s0, eSnd v1 l1), (v1, eRow va 150), (va, eArr cI 150 S'.2), (l1, eRow la 150), (la, eArr cI 150 S'.1), (wl, eRow bl (lenW L)), (bl, eArr cI 9 lw)]) ⟨hx, hb, hml, hown, hts⟩ (c_X5_size l D cI cC w0 wb bb wl bt (lenW L)) (cwV 0 hts gX3_carryTo_X5_size rfl rfl rfl (by decide +kernel) ⟨Nat.le_of_ble_eq_true rfl, Nat.le_of_ble_eq_true rfl⟩) rfl hl.1 rfl (Nat.le_of_ble_eq_true rfl) dX3_carryTo_7 ⟨Nat.zero_le _, Nat.zero_le _⟩ hN hK hP hD hS hA rfl (q0 := 5) rfl [5, 6, 7] [0, 1, 2, 3, 4, 8, 9] rfl rfl ⟨rfl, rfl, by decide⟩ (fun r3 u H locs w4 hP hD hS => ?_)
      obtain rfl : r3 = (nI (lenW L)) := w4
      refine x_icmp_ge (tgt := 48) hx hb dX3_carryTo_10 (by decide) (by omega) (by omega) (fun h5 => ?_) (fun h5 => ?_)
      · exact x_vret hx hb hr hlocks dX3_carryTo_48 (post := fun (S' : Snd) => okS S' ∧ (S'.1 b, S'.2 b) = carryP (S.1 b, S.2 b) b t v lv L) (w1 := fun (S' : Snd) => [(s0, eSnd v1 l1), (v1, eRow va 150), (va, eArr cI 150 S'.2), (l1, eRow la 150), (la, eArr cI 150 S'.1), (w0, eWay wb wl), (wb, eRow bb (lenW L)), (bb, eArr cI 9 bt), (wl, eRow bl (lenW L)), (bl, eArr cI 9 lw)]) S' ⟨hos, by rw [hcp, show i = lenW L from by omega, carryP_all]⟩ hK (hP.sub [0, 1, 2, 3, 4, 7, 8, 9, 5, 6] rfl) (hD.sub [0, 1, 2, 3, 4, 7, 8, 9, 5, 6] rfl rfl) hS
      · obtain ⟨-, -, hj6a, hj6b⟩ := hrep i (by omega)
        refine lv_iload_n hx hb dX3_carryTo_13 rfl (lv_at hl 3 rfl) ?_
        refine lv_aload hx hb dX3_carryTo_14 (lv_at hl 6 rfl) ?_
        refine lv_iload hx hb dX3_carryTo_16 (lv_at hl 0 rfl) ?_
        refine k_V (q := (RX5, TX5, 2)) (ci := 5) (As := [.int (nI i)]) (wr := [(s0, eSnd v1 l1), (v1, eRow va 150), (va, eArr cI 150 S'.2), (l1, eRow la 150), (la, eArr cI 150 S'.1), (wl, eRow bl (lenW L)), (bl, eArr cI 9 lw)]) ⟨hx, hb, hml, hown, hts⟩ (c_X5_later l D cI cC w0 wb bb wl bt (lenW L) i (by omega) (by omega)) (cwV 1 hts gX3_carryTo_X5_later rfl rfl rfl (by decide +kernel) ⟨Nat.le_of_ble_eq_true rfl, Nat.le_of_ble_eq_true rfl⟩) rfl hl.1 rfl (Nat.le_of_ble_eq_true rfl) dX3_carryTo_18 ⟨Nat.zero_le _, Nat.zero_le _⟩ hN hK hP hD hS hA rfl (q0 := 7) rfl [7, 8, 9] [0, 1, 2, 3, 4, 5, 6] rfl rfl ⟨rfl, rfl, by decide⟩ (fun r7 u H locs w8 hP hD hS => ?_)
        obtain rfl : r7 = (nI (bt i)) := w8
        refine x_iadd hx hb dX3_carryTo_21 ?_
        refine lv_iload_n hx hb dX3_carryTo_22 rfl (lv_at hl 2 rfl) ?_
        refine x_icmp_ne (tgt := 42) hx hb dX3_carryTo_23 (by decide) (by omega) (by omega) (fun h9 => ?_) (fun h9 => ?_)
        · refine lv_iinc (v := (nI (i + 1))) (lv' := [(6, .int (nI (i + 1))), (0, .ref s0), (1, .int (nI b)), (2, .int (nI t)), (3, .int (nI v)), (4, .int (nI lv)), (5, .ref w0)]) hx hb dX3_carryTo_42 hl (k := 0) rfl (nI_inc _ 1) (by decide) rfl (fun ls hl => ?_)
          refine lv_goto (tgt := 3) hx hb dX3_carryTo_45 (by decide) ?_
          exact ih3 (i + 1) S' (by omega) (by omega) hos (by rw [carryP_s hrep (by omega), if_neg (by omega)]; exact hcp) _ _ (hP.sub [0, 1, 2, 3, 4, 7, 8, 9, 5, 6] rfl) (hD.sub [0, 1, 2, 3, 4, 7, 8, 9, 5, 6] rfl rfl) hS _ (lv_sub hl [0, 1, 2, 3, 4, 5, 6] rfl)
        · refine lv_aload_n hx hb dX3_carryTo_26 rfl (lv_at hl 1 rfl) ?_
          refine lv_iload_n hx hb dX3_carryTo_27 rfl (lv_at hl 2 rfl) ?_
          refine lv_iload hx hb dX3_carryTo_28 (lv_at hl 5 rfl) ?_
          refine lv_aload hx hb dX3_carryTo_30 (lv_at hl 6 rfl) ?_
          refine lv_iload hx hb dX3_carryTo_32 (lv_at hl 0 rfl) ?_
          refine k_V (q := (RX5, TX5, 2)) (ci := 5) (As := [.int (nI i)]) (wr := [(s0, eSnd v1 l1), (v1, eRow va 150), (va, eArr cI 150 S'.2), (l1, eRow la 150), (la, eArr cI 150 S'.1), (wb, eRow bb (lenW L)), (bb, eArr cI 9 bt)]) ⟨hx, hb, hml, hown, hts⟩ (c_X5_weaker l D cI cC w0 wb wl bl lw (lenW L) i (by omega) (by omega)) (cwV 1 hts gX3_carryTo_X5_weaker rfl rfl rfl (by decide +kernel) ⟨Nat.le_of_ble_eq_true rfl, Nat.le_of_ble_eq_true rfl⟩) rfl hl.1 rfl (Nat.le_of_ble_eq_true rfl) dX3_carryTo_34 ⟨Nat.zero_le _, Nat.zero_le _⟩ hN hK hP hD hS hA rfl (q0 := 7) rfl [7, 5, 6] [0, 1, 2, 3, 4, 8, 9] rfl rfl ⟨rfl, rfl, by decide⟩ (fun r10 u H locs w11 hP hD hS => ?_)
          obtain rfl : r10 = (nI (lw i)) := w11
          refine x_isubZ hx hb dX3_carryTo_37 ?_
          refine lv_iload_n hx hb dX3_carryTo_38 rfl (lv_at hl 4 rfl) ?_
          refine k_Vv (q := (RX3, TX3, 2)) (ci := 3) (As := [.int (nI b), .int (iI (((lv : Nat) : Int) - ((lw i : Nat) : Int))), .int (nI v)]) (wr := [(wb, eRow bb (lenW L)), (bb, eArr cI 9 bt), (w0, eWay wb wl), (wl, eRow bl (lenW L)), (bl, eArr cI 9 lw)]) ⟨hx, hb, hml, hown, hts⟩ (c_X3_come l D cI cC s0 v1 va l1 la S' b (((lv : Nat) : Int) - ((lw i : Nat) : Int)) v (by omega) (by omega) (by omega) hos) (cwV 3 hts gX3_carryTo_X3_come rfl rfl rfl (by decide +kernel) ⟨Nat.le_of_ble_eq_true rfl, Nat.le_of_ble_eq_true rfl⟩) rfl hl.1 rfl (Nat.le_of_ble_eq_true rfl) dX3_carryTo_39 ⟨Nat.zero_le _, Nat.zero_le _⟩ hN hK hP hD hS hA rfl (q0 := 0) rfl [0, 1, 2, 3, 4] [5, 6, 7, 8, 9] rfl rfl ⟨rfl, rfl, by decide⟩ (fun u H locs w13 hP hD hS => ?_)
          refine lv_iinc (v := (nI (i + 1))) (lv' := [(6, .int (nI (i + 1))), (0, .ref s0), (1, .int (nI b)), (2, .int (nI t)), (3, .int (nI v)), (4, .int (nI lv)), (5, .ref w0)]) hx hb dX3_carryTo_42 hl (k := 0) rfl (nI_inc _ 1) (by decide) rfl (fun ls hl => ?_)
          refine lv_goto (tgt := 3) hx hb dX3_carryTo_45 (by decide) ?_
          exact ih3 (i + 1) (comeM S' b (((lv : Nat) : Int) - ((lw i : Nat) : Int)) v) (by omega) (by omega) (okS_come hos (by omega) (by omega)) (by rw [carryP_s hrep (by omega), if_pos (by omega), comeM_at (by omega), hcp]) _ _ (hP.sub [5, 6, 7, 8, 9, 2, 0, 1, 3, 4] rfl) (hD.sub [5, 6, 7, 8, 9, 2, 0, 1, 3, 4] rfl rfl) hS _ (lv_sub hl [0, 1, 2, 3, 4, 5, 6] rfl)
  exact loop3 _ 0 S (Nat.lt_succ_self _) (by omega) hS0 rfl _ _ (hP.sub [0, 1, 2, 3, 4, 5, 6, 7, 8, 9] rfl) (hD.sub [0, 1, 2, 3, 4, 5, 6, 7, 8, 9] rfl rfl) hS _ (lv_sub hl [0, 1, 2, 3, 4, 5, 6] rfl)

set_option maxRecDepth 100000 in
set_option maxHeartbeats 4000000 in
theorem c_X6_wordsIn (l : Launch) (D : va_G) (cI cC : ClassId) (sc : Nat) (hsc : sc < 4096) : mtI l D cI cC yX6_wordsIn wsX6_wordsIn ({ frames := 1, cells := 0, slots := 0, locals := 20 }) [.int (nI sc)] [] (fun (r : Int32) (_ : Unit) => r = (nI (wiM sc))) (fun (_ : Unit) => []) := by
  refine mtI_of (cc := cX6_wordsIn) (maxL := 1) (ret := (some .int)) (by decide) rfl rfl ?_
  intro p e s m below meth c A hx hb hml hr hts hown hlocks hN hA hK hP hD hS ls hl
  have hown : s.vm.findClass RX6 = some m.cls := hown
  have hl : lv_has ls 1 [(0, .int (nI sc))] := hl
  obtain ⟨H, hHe⟩ : ∃ H, H = s.heap := ⟨_, rfl⟩
  rw [← hHe] at hP ⊢
  have hS : va_S A s.heap H [] := by rw [hHe]; exact va_S.rf
  refine lv_iload_n hx hb dX6_wordsIn_0 rfl (lv_at hl 0 rfl) ?_
  refine lv_iload_n hx hb dX6_wordsIn_1 rfl (lv_at hl 0 rfl) ?_
  refine lv_iconst (v := (nI 1)) hx hb dX6_wordsIn_2 (by decide) ?_
  refine x_ishr hx hb dX6_wordsIn_3 (by omega) (by omega) ?_
  refine x_iorN hx hb dX6_wordsIn_4 ?_
  refine lv_sipush (v := (nI 1365)) hx hb dX6_wordsIn_5 (by decide) ?_
  refine x_iandN hx hb dX6_wordsIn_8 ?_
  refine k_S (As := [.int (nI ((sc ||| (sc / 2 ^ 1)) &&& 1365))]) (wr := []) ⟨hx, hb, hml, hown, hts⟩ (c_J6_bitCount_0f7a4 l D cI cC ((sc ||| (sc / 2 ^ 1)) &&& 1365) (Nat.lt_of_le_of_lt Nat.and_le_right (by omega))) ⟨callB_of 1 hts ggX6_wordsIn_J6_bitCount_0f7a4 rfl rfl rfl (hts (.initialized RJ6) (by decide +kernel)) (hts (.methodLink RX6 173 yJ6_bitCount_0f7a4) (by decide +kernel)) (by decide +kernel) ⟨Nat.le_of_ble_eq_true rfl, Nat.le_of_ble_eq_true rfl⟩, hts (.static yJ6_bitCount_0f7a4) (by decide +kernel)⟩ rfl hl.1 rfl (Nat.le_of_ble_eq_true rfl) dX6_wordsIn_9 ⟨Nat.zero_le _, Nat.zero_le _⟩ hN hK hP hD hS hA [] [] rfl rfl ⟨rfl, rfl, by decide⟩ (fun r1 u H locs w2 hP hD hS => ?_)
  obtain rfl : r1 = (nI (popM ((sc ||| (sc / 2 ^ 1)) &&& 1365))) := w2
  refine x_top (show nI (popM ((sc ||| (sc / 2 ^ 1)) &&& 1365)) = nI (wiM sc) from rfl) ?_
  exact x_iret hx hb hr hlocks dX6_wordsIn_12 rfl (post := fun (r : Int32) (_ : Unit) => r = (nI (wiM sc))) (w1 := fun (_ : Unit) => []) () rfl hK hP hD hS

set_option maxRecDepth 100000 in
set_option maxHeartbeats 4000000 in
theorem c_X6_lineAt (l : Launch) (D : va_G) (cI cC : ClassId) (o : Nat) (t0 : Nat) (a1 : Nat) (a2 : Nat) (w0 : Nat) (y0 : Nat) (s0 : Nat) (h0 : Nat) (g0 : Nat) (u0 : Nat) (v0 : Nat) (ua : Nat) (tk : Nat → Nat) (n : Nat) (sc : Nat) (i : Nat) (hi : i < n ∧ n ≤ 6) (hsc : sc < 4096) : mtI l D cI cC yX6_lineAt wsX6_lineAt ({ frames := 1, cells := 0, slots := 0, locals := 20 }) [.ref o, .int (nI sc), .int (nI i)] [(o, eEPR t0 a1 a2 w0 y0 s0 h0 g0 u0 v0), (u0, eRow ua n), (ua, eArr cI 6 tk)] (fun (r : Int32) (_ : Unit) => r = (nI (lineM sc n i))) (fun (_ : Unit) => [(o, eEPR t0 a1 a2 w0 y0 s0 h0 g0 u0 v0), (u0, eRow ua n), (ua, eArr cI 6 tk)]) := by
  refine mtI_of (cc := cX6_lineAt) (maxL := 3) (ret := (some .int)) (by decide) rfl rfl ?_
  intro p e s m below meth c A hx hb hml hr hts hown hlocks hN hA hK hP hD hS ls hl
  have hown : s.vm.findClass RX6 = some m.cls := hown
  have hl : lv_has ls 3 [(0, .ref o), (1, .int (nI sc)), (2, .int (nI i))] := hl
  obtain ⟨H, hHe⟩ : ∃ H, H = s.heap := ⟨_, rfl⟩
  rw [← hHe] at hP ⊢
  have hS : va_S A s.heap H [] := by rw [hHe]; exact va_S.rf
  have fl58 := hts (.fieldLink RX6 58 "EchoPaysRent" "wanted" "LEchoPaysRent$Row;") (by decide +kernel)
  have inX6 : ∀ w ∈ wsX60, w ∈ wsX6_lineAt := by decide +kernel
  refine lv_iload_n hx hb dX6_lineAt_0 rfl (lv_at hl 1 rfl) ?_
  refine lv_iconst (v := (nI 2)) hx hb dX6_lineAt_1 (by decide) ?_
  refine lv_aload_n hx hb dX6_lineAt_2 rfl (lv_at hl 0 rfl) ?_
  refine va_get (D := D) (ci := 6) (v := .ref u0) (C := RX6) (T := TX6) (N := 10) hx hb hts inX6 hown hK hP 0 rfl rfl 8 (by decide) fl58 (fun _ h9 => h9) rfl dX6_lineAt_3 ?_
  refine k_V (q := (RX1, TX1, 2)) (ci := 1) (As := []) (wr := [(o, eEPR t0 a1 a2 w0 y0 s0 h0 g0 u0 v0)]) ⟨hx, hb, hml, hown, hts⟩ (c_X1_size l D cI cC u0 ua 6 tk n) (cwV 0 hts gX6_lineAt_X1_size rfl rfl rfl (by decide +kernel) ⟨Nat.le_of_ble_eq_true rfl, Nat.le_of_ble_eq_true rfl⟩) rfl hl.1 rfl (Nat.le_of_ble_eq_true rfl) dX6_lineAt_6 ⟨Nat.zero_le _, Nat.zero_le _⟩ hN hK hP hD hS hA rfl (q0 := 1) rfl [1, 2] [0] rfl rfl ⟨rfl, rfl, by decide⟩ (fun r1 u H locs w2 hP hD hS => ?_)
  obtain rfl : r1 = (nI n) := w2
  refine lv_iconst (v := (nI 1)) hx hb dX6_lineAt_9 (by decide) ?_
  refine x_isub hx hb dX6_lineAt_10 (by omega) ?_
  refine lv_iload_n hx hb dX6_lineAt_11 rfl (lv_at hl 2 rfl) ?_
  refine x_isub hx hb dX6_lineAt_12 (by omega) ?_
  refine x_imul hx hb dX6_lineAt_13 ?_
  refine x_ishr hx hb dX6_lineAt_14 (by omega) (by omega) ?_
  refine lv_iconst (v := (nI 3)) hx hb dX6_lineAt_15 (by decide) ?_
  refine x_iand3 hx hb dX6_lineAt_16 ?_
  refine x_top (show nI ((sc / 2 ^ (2 * ((n - 1) - i))) % 4) = nI (lineM sc n i) from rfl) ?_
  exact x_iret hx hb hr hlocks dX6_lineAt_17 rfl (post := fun (r : Int32) (_ : Unit) => r = (nI (lineM sc n i))) (w1 := fun (_ : Unit) => [(o, eEPR t0 a1 a2 w0 y0 s0 h0 g0 u0 v0), (u0, eRow ua n), (ua, eArr cI 6 tk)]) () rfl hK hP hD hS

set_option maxRecDepth 100000 in
set_option maxHeartbeats 4000000 in
theorem c_X6_heardOfScript (l : Launch) (D : va_G) (cI cC : ClassId) (o : Nat) (t0 : Nat) (a1 : Nat) (a2 : Nat) (w0 : Nat) (y0 : Nat) (s0 : Nat) (h0 : Nat) (g0 : Nat) (u0 : Nat) (v0 : Nat) (wb : Nat) (bb : Nat) (wl : Nat) (bl : Nat) (v1 : Nat) (va : Nat) (l1 : Nat) (la : Nat) (bt : Nat → Nat) (lw : Nat → Nat) (L : List (Nat × Nat)) (S : Snd) (ua : Nat) (tk : Nat → Nat) (n : Nat) (sc : Nat) (i : Nat) (hi : i < n ∧ n ≤ 6) (hsc : sc < 4096) (hb40 : bt 0 ≤ 40) (hS0 : okS S) (hrep : repW bt lw L) (hL9 : lenW L ≤ 9) (h0L : 0 < lenW L) : mtI l D cI cC yX6_heardOfScript wsX6_heardOfScript ({ frames := 3, cells := 0, slots := 0, locals := 73 }) [.ref o, .int (nI sc), .int (nI i)] [(o, eEPR t0 a1 a2 w0 y0 s0 h0 g0 u0 v0), (w0, eWay wb wl), (wb, eRow bb (lenW L)), (bb, eArr cI 9 bt), (wl, eRow bl (lenW L)), (bl, eArr cI 9 lw), (s0, eSnd v1 l1), (v1, eRow va 150), (va, eArr cI 150 S.2), (l1, eRow la 150), (la, eArr cI 150 S.1), (u0, eRow ua n), (ua, eArr cI 6 tk)] (fun (r : Int32) (S' : Snd) => r = (nI ((hosP L (bt 0 + i) (lineM sc n) (i + 1)).2)) ∧ okS S') (fun (S' : Snd) => [(o, eEPR t0 a1 a2 w0 y0 s0 h0 g0 u0 v0), (w0, eWay wb wl), (wb, eRow bb (lenW L)), (bb, eArr cI 9 bt), (wl, eRow bl (lenW L)), (bl, eArr cI 9 lw), (s0, eSnd v1 l1), (v1, eRow va 150), (va, eArr cI 150 S'.2), (l1, eRow la 150), (la, eArr cI 150 S'.1), (u0, eRow ua n), (ua, eArr cI 6 tk)]) := by
  refine mtI_of (cc := cX6_heardOfScript) (maxL := 6) (ret := (some .int)) (by decide) rfl rfl ?_
  intro p e s m below meth c A hx hb hml hr hts hown hlocks hN hA hK hP hD hS ls hl
  have hown : s.vm.findClass RX6 = some m.cls := hown
  have hl : lv_has ls 6 [(0, .ref o), (1, .int (nI sc)), (2, .int (nI i))] := hl
  obtain ⟨H, hHe⟩ : ∃ H, H = s.heap := ⟨_, rfl⟩
  rw [← hHe] at hP ⊢
  have hS : va_S A s.heap H [] := by rw [hHe]; exact va_S.rf
  have fl29 := hts (.fieldLink RX6 29 "EchoPaysRent" "ways" "LEchoPaysRent$Ways;") (by decide +kernel)
  have inX6 : ∀ w ∈ wsX60, w ∈ wsX6_heardOfScript := by decide +kernel
  have fl39 := hts (.fieldLink RX6 39 "EchoPaysRent" "sound" "LEchoPaysRent$Sound;") (by decide +kernel)
  refine lv_aload_n hx hb dX6_heardOfScript_0 rfl (lv_at hl 0 rfl) ?_
  refine va_get (D := D) (ci := 6) (v := .ref w0) (C := RX6) (T := TX6) (N := 10) hx hb hts inX6 hown hK hP 0 rfl rfl 3 (by decide) fl29 (fun _ h9 => h9) rfl dX6_heardOfScript_1 ?_
  refine lv_iconst (v := (nI 0)) hx hb dX6_heardOfScript_4 (by decide) ?_
  refine k_V (q := (RX5, TX5, 2)) (ci := 5) (As := [.int (nI 0)]) (wr := [(o, eEPR t0 a1 a2 w0 y0 s0 h0 g0 u0 v0), (wl, eRow bl (lenW L)), (bl, eArr cI 9 lw), (s0, eSnd v1 l1), (v1, eRow va 150), (va, eArr cI 150 S.2), (l1, eRow la 150), (la, eArr cI 150 S.1), (u0, eRow ua n), (ua, eArr cI 6 tk)]) ⟨hx, hb, hml, hown, hts⟩ (c_X5_later l D cI cC w0 wb bb wl bt (lenW L) 0 (by omega) (by omega)) (cwV 1 hts gX6_heardOfScript_X5_later rfl rfl rfl (by decide +kernel) ⟨Nat.le_of_ble_eq_true rfl, Nat.le_of_ble_eq_true rfl⟩) rfl hl.1 rfl (Nat.le_of_ble_eq_true rfl) dX6_heardOfScript_5 ⟨Nat.zero_le _, Nat.zero_le _⟩ hN hK hP hD hS hA rfl (q0 := 1) rfl [1, 2, 3] [0, 4, 5, 6, 7, 8, 9, 10, 11, 12] rfl rfl ⟨rfl, rfl, by decide⟩ (fun r1 u H locs w2 hP hD hS => ?_)
  obtain rfl : r1 = (nI (bt 0)) := w2
  refine lv_iload_n hx hb dX6_heardOfScript_8 rfl (lv_at hl 2 rfl) ?_
  refine x_iadd hx hb dX6_heardOfScript_9 ?_
  refine lv_istore_n (lv' := [(3, .int (nI (bt 0 + i))), (0, .ref o), (1, .int (nI sc)), (2, .int (nI i))]) hx hb dX6_heardOfScript_10 rfl hl (by decide) rfl (fun ls hl => ?_)
  refine lv_aload_n hx hb dX6_heardOfScript_11 rfl (lv_at hl 1 rfl) ?_
  refine va_get (D := D) (ci := 6) (v := .ref s0) (C := RX6) (T := TX6) (N := 10) hx hb hts inX6 hown hK hP 0 rfl rfl 5 (by decide) fl39 (fun _ h9 => h9) rfl dX6_heardOfScript_12 ?_
  refine lv_iload_n hx hb dX6_heardOfScript_15 rfl (lv_at hl 0 rfl) ?_
  refine k_Vv (q := (RX3, TX3, 2)) (ci := 3) (As := [.int (nI (bt 0 + i))]) (wr := [(o, eEPR t0 a1 a2 w0 y0 s0 h0 g0 u0 v0), (wl, eRow bl (lenW L)), (bl, eArr cI 9 lw), (u0, eRow ua n), (ua, eArr cI 6 tk), (w0, eWay wb wl), (wb, eRow bb (lenW L)), (bb, eArr cI 9 bt)]) ⟨hx, hb, hml, hown, hts⟩ (c_X3_hushBeat l D cI cC s0 v1 va l1 la S.2 S.1 (bt 0 + i) (by omega)) (cwV 1 hts gX6_heardOfScript_X3_hushBeat rfl rfl rfl (by decide +kernel) ⟨Nat.le_of_ble_eq_true rfl, Nat.le_of_ble_eq_true rfl⟩) rfl hl.1 rfl (Nat.le_of_ble_eq_true rfl) dX6_heardOfScript_16 ⟨Nat.zero_le _, Nat.zero_le _⟩ hN hK hP hD hS hA rfl (q0 := 3) rfl [3, 4, 5, 6, 7] [0, 1, 2, 8, 9, 10, 11, 12] rfl rfl ⟨rfl, rfl, by decide⟩ (fun u H locs w4 hP hD hS => ?_)
  refine lv_iconst (v := (nI 0)) hx hb dX6_heardOfScript_19 (by decide) ?_
  refine lv_istore (lv' := [(4, .int (nI 0)), (3, .int (nI (bt 0 + i))), (0, .ref o), (1, .int (nI sc)), (2, .int (nI i))]) hx hb dX6_heardOfScript_20 hl (by decide) rfl (fun ls hl => ?_)
  have loop22 : ∀ (nn22 : Nat) (k : Nat) (S' : Snd), i + 1 - k < nn22 → (k ≤ i + 1) → (okS S') → ((S'.1 (bt 0 + i), S'.2 (bt 0 + i)) = hosP L (bt 0 + i) (lineM sc n) k) → ∀ (H : Heap) (locs : List Loc), va_P D vwCl [(o, eEPR t0 a1 a2 w0 y0 s0 h0 g0 u0 v0), (w0, eWay wb wl), (wb, eRow bb (lenW L)), (bb, eArr cI 9 bt), (wl, eRow bl (lenW L)), (bl, eArr cI 9 lw), (s0, eSnd v1 l1), (v1, eRow va 150), (va, eArr cI 150 S'.2), (l1, eRow la 150), (la, eArr cI 150 S'.1), (u0, eRow ua n), (ua, eArr cI 6 tk)] H → va_D A [(o, eEPR t0 a1 a2 w0 y0 s0 h0 g0 u0 v0), (w0, eWay wb wl), (wb, eRow bb (lenW L)), (bb, eArr cI 9 bt), (wl, eRow bl (lenW L)), (bl, eArr cI 9 lw), (s0, eSnd v1 l1), (v1, eRow va 150), (va, eArr cI 150 S'.2), (l1, eRow la 150), (la, eArr cI 150 S'.1), (u0, eRow ua n), (ua, eArr cI 6 tk)] → va_S A s.heap H locs → ∀ ls : Array Slot, lv_has ls 6 [(4, .int (nI k)), (3, .int (nI (bt 0 + i))), (0, .ref o), (1, .int (nI sc)), (2, .int (nI i))] → W p l e (headSpec wsX6_heardOfScript ({ frames := 3, cells := 0, slots := 0, locals := 73 })).room s m ([.ref o, .int (nI sc), .int (nI i)] : List Value).toArray below meth c H locs 0 0 (MQ below (va_Qi (fun (r : Int32) (S' : Snd) => r = (nI ((hosP L (bt 0 + i) (lineM sc n) (i + 1)).2)) ∧ okS S') (ctB D cI cC (fun (S' : Snd) => [(o, eEPR t0 a1 a2 w0 y0 s0 h0 g0 u0 v0), (w0, eWay wb wl), (wb, eRow bb (lenW L)), (bb, eArr cI 9 bt), (wl, eRow bl (lenW L)), (bl, eArr cI 9 lw), (s0, eSnd v1 l1), (v1, eRow va 150), (va, eArr cI 150 S'.2), (l1, eRow la 150), (la, eArr cI 150 S'.1), (u0, eRow ua n), (ua, eArr cI 6 tk)]) A) A) ([.ref o, .int (nI sc), .int (nI i)] : List Value).toArray s 0 0 A) (F0 m 22 ls []) := by
    intro nn22
    induction nn22 with
    | zero =>
      intro k S' hm5
      exact absurd hm5 (Nat.not_lt_zero _)
    | succ nn22 ih22 =>
      intro k S' hm5 hi6 hos hcp H locs hP hD hS ls hl
      refine lv_iload hx hb dX6_heardOfScript_22 (lv_at hl 0 rfl) ?_
      refine lv_iload_n hx hb dX6_heardOfScript_24 rfl (lv_at hl 4 rfl) ?_
      refine x_icmp_gt (tgt := 66) hx hb dX6_heardOfScript_25 (by decide) (by omega) (by omega) (fun h7 => ?_) (fun h7 => ?_)
      · refine lv_aload_n hx hb dX6_heardOfScript_66 rfl (lv_at hl 2 rfl) ?_
        refine va_get (D := D) (ci := 6) (v := .ref s0) (C := RX6) (T := TX6) (N := 10) hx hb hts inX6 hown hK hP 0 rfl rfl 5 (by decide) fl39 (fun _ h9 => h9) rfl dX6_heardOfScript_67 ?_
        refine lv_iload_n hx hb dX6_heardOfScript_70 rfl (lv_at hl 1 rfl) ?_
        refine k_V (q := (RX3, TX3, 2)) (ci := 3) (As := [.int (nI (bt 0 + i))]) (wr := [(o, eEPR t0 a1 a2 w0 y0 s0 h0 g0 u0 v0), (w0, eWay wb wl), (wb, eRow bb (lenW L)), (bb, eArr cI 9 bt), (wl, eRow bl (lenW L)), (bl, eArr cI 9 lw), (l1, eRow la 150), (la, eArr cI 150 S'.1), (u0, eRow ua n), (ua, eArr cI 6 tk)]) ⟨hx, hb, hml, hown, hts⟩ (c_X3_valueAt_lt l D cI cC s0 v1 va l1 S'.2 (bt 0 + i) (by omega)) (cwV 1 hts gX6_heardOfScript_X3_valueAt rfl rfl rfl (by decide +kernel) ⟨Nat.le_of_ble_eq_true rfl, Nat.le_of_ble_eq_true rfl⟩) rfl hl.1 rfl (Nat.le_of_ble_eq_true rfl) dX6_heardOfScript_71 ⟨Nat.zero_le _, Nat.zero_le _⟩ hN hK hP hD hS hA rfl (q0 := 6) rfl [6, 7, 8] [0, 1, 2, 3, 4, 5, 9, 10, 11, 12] rfl rfl ⟨rfl, rfl, by decide⟩ (fun r8 u H locs w9 hP hD hS => ?_)
        obtain rfl : r8 = (nI (S'.2 (bt 0 + i))) := w9
        refine x_top (show nI (S'.2 (bt 0 + i)) = nI (hosP L (bt 0 + i) (lineM sc n) (i + 1)).2 from by rw [← show k = i + 1 from by omega, ← hcp]) ?_
        exact x_iret hx hb hr hlocks dX6_heardOfScript_74 rfl (post := fun (r : Int32) (S' : Snd) => r = (nI ((hosP L (bt 0 + i) (lineM sc n) (i + 1)).2)) ∧ okS S') (w1 := fun (S' : Snd) => [(o, eEPR t0 a1 a2 w0 y0 s0 h0 g0 u0 v0), (w0, eWay wb wl), (wb, eRow bb (lenW L)), (bb, eArr cI 9 bt), (wl, eRow bl (lenW L)), (bl, eArr cI 9 lw), (s0, eSnd v1 l1), (v1, eRow va 150), (va, eArr cI 150 S'.2), (l1, eRow la 150), (la, eArr cI 150 S'.1), (u0, eRow ua n), (ua, eArr cI 6 tk)]) S' ⟨rfl, hos⟩ hK (hP.sub [0, 1, 2, 3, 4, 5, 10, 11, 12, 6, 7, 8, 9] rfl) (hD.sub [0, 1, 2, 3, 4, 5, 10, 11, 12, 6, 7, 8, 9] rfl rfl) hS
      · refine lv_aload_n hx hb dX6_heardOfScript_28 rfl (lv_at hl 2 rfl) ?_
        refine lv_iload_n hx hb dX6_heardOfScript_29 rfl (lv_at hl 3 rfl) ?_
        refine lv_iload hx hb dX6_heardOfScript_30 (lv_at hl 0 rfl) ?_
        refine k_V (q := (RX6, TX6, 10)) (ci := 6) (As := [.int (nI sc), .int (nI k)]) (wr := [(w0, eWay wb wl), (wb, eRow bb (lenW L)), (bb, eArr cI 9 bt), (wl, eRow bl (lenW L)), (bl, eArr cI 9 lw), (s0, eSnd v1 l1), (v1, eRow va 150), (va, eArr cI 150 S'.2), (l1, eRow la 150), (la, eArr cI 150 S'.1)]) ⟨hx, hb, hml, hown, hts⟩ (c_X6_lineAt l D cI cC o t0 a1 a2 w0 y0 s0 h0 g0 u0 v0 ua tk n sc k (by omega) (by omega)) (cwV 2 hts gX6_heardOfScript_X6_lineAt rfl rfl rfl (by decide +kernel) ⟨Nat.le_of_ble_eq_true rfl, Nat.le_of_ble_eq_true rfl⟩) rfl hl.1 rfl (Nat.le_of_ble_eq_true rfl) dX6_heardOfScript_32 ⟨Nat.zero_le _, Nat.zero_le _⟩ hN hK hP hD hS hA rfl (q0 := 0) rfl [0, 11, 12] [1, 2, 3, 4, 5, 6, 7, 8, 9, 10] rfl rfl ⟨rfl, rfl, by decide⟩ (fun r10 u H locs w11 hP hD hS => ?_)
        obtain rfl : r10 = (nI (lineM sc n k)) := w11
        have hl4 : lineM sc n k < 4 := Nat.mod_lt _ (by omega)
        refine lv_istore (lv' := [(5, .int (nI (lineM sc n k))), (4, .int (nI k)), (3, .int (nI (bt 0 + i))), (0, .ref o), (1, .int (nI sc)), (2, .int (nI i))]) hx hb dX6_heardOfScript_35 hl (by decide) rfl (fun ls hl => ?_)
        refine lv_iload hx hb dX6_heardOfScript_37 (lv_at hl 0 rfl) ?_
        refine x_if_le (tgt := 60) hx hb dX6_heardOfScript_39 (by decide) (by omega) (fun h12 => ?_) (fun h12 => ?_)
        · refine lv_iinc (v := (nI (k + 1))) (lv' := [(4, .int (nI (k + 1))), (5, .int (nI (lineM sc n k))), (3, .int (nI (bt 0 + i))), (0, .ref o), (1, .int (nI sc)), (2, .int (nI i))]) hx hb dX6_heardOfScript_60 hl (k := 1) rfl (nI_inc _ 1) (by decide) rfl (fun ls hl => ?_)
          refine lv_goto (tgt := 22) hx hb dX6_heardOfScript_63 (by decide) ?_
          exact ih22 (k + 1) S' (by omega) (by omega) hos (by rw [hosP_f (by omega)]; exact hcp) _ _ (hP.sub [10, 0, 1, 2, 3, 4, 5, 6, 7, 8, 9, 11, 12] rfl) (hD.sub [10, 0, 1, 2, 3, 4, 5, 6, 7, 8, 9, 11, 12] rfl rfl) hS _ (lv_sub hl [0, 2, 3, 4, 5] rfl)
        · refine lv_aload_n hx hb dX6_heardOfScript_42 rfl (lv_at hl 3 rfl) ?_
          refine va_get (D := D) (ci := 6) (v := .ref s0) (C := RX6) (T := TX6) (N := 10) hx hb hts inX6 hown hK hP 10 rfl rfl 5 (by decide) fl39 (fun _ h9 => h9) rfl dX6_heardOfScript_43 ?_
          refine lv_iload_n hx hb dX6_heardOfScript_46 rfl (lv_at hl 2 rfl) ?_
          refine lv_iload hx hb dX6_heardOfScript_47 (lv_at hl 1 rfl) ?_
          refine lv_iload hx hb dX6_heardOfScript_49 (lv_at hl 0 rfl) ?_
          refine lv_bipush (v := (nI 50)) hx hb dX6_heardOfScript_51 (by decide) ?_
          refine lv_aload_n hx hb dX6_heardOfScript_53 rfl (lv_at hl 3 rfl) ?_
          refine va_get (D := D) (ci := 6) (v := .ref w0) (C := RX6) (T := TX6) (N := 10) hx hb hts inX6 hown hK hP 10 rfl rfl 3 (by decide) fl29 (fun _ h9 => h9) rfl dX6_heardOfScript_54 ?_
          refine k_Vv (q := (RX3, TX3, 2)) (ci := 3) (As := [.int (nI (bt 0 + i)), .int (nI k), .int (nI (lineM sc n k)), .int (nI 50), .ref w0]) (wr := [(o, eEPR t0 a1 a2 w0 y0 s0 h0 g0 u0 v0), (u0, eRow ua n), (ua, eArr cI 6 tk)]) ⟨hx, hb, hml, hown, hts⟩ (c_X3_carryTo l D cI cC s0 v1 va l1 la S' w0 wb bb wl bl bt lw L (bt 0 + i) k (lineM sc n k) 50 (by omega) (by omega) (by omega) (by omega) hos hrep (by omega)) (cwV 5 hts gX6_heardOfScript_X3_carryTo rfl rfl rfl (by decide +kernel) ⟨Nat.le_of_ble_eq_true rfl, Nat.le_of_ble_eq_true rfl⟩) rfl hl.1 rfl (Nat.le_of_ble_eq_true rfl) dX6_heardOfScript_57 ⟨Nat.zero_le _, Nat.zero_le _⟩ hN hK hP hD hS hA rfl (q0 := 5) rfl [5, 6, 7, 8, 9, 0, 1, 2, 3, 4] [10, 11, 12] rfl rfl ⟨rfl, rfl, by decide⟩ (fun u H locs w15 hP hD hS => ?_)
          obtain ⟨S'14, rfl⟩ : ∃ z, z = u := ⟨u, rfl⟩
          obtain ⟨h16, h17⟩ : okS S'14 ∧ (S'14.1 (bt 0 + i), S'14.2 (bt 0 + i)) = carryP (S'.1 (bt 0 + i), S'.2 (bt 0 + i)) (bt 0 + i) k (lineM sc n k) 50 L := w15
          refine lv_iinc (v := (nI (k + 1))) (lv' := [(4, .int (nI (k + 1))), (5, .int (nI (lineM sc n k))), (3, .int (nI (bt 0 + i))), (0, .ref o), (1, .int (nI sc)), (2, .int (nI i))]) hx hb dX6_heardOfScript_60 hl (k := 1) rfl (nI_inc _ 1) (by decide) rfl (fun ls hl => ?_)
          refine lv_goto (tgt := 22) hx hb dX6_heardOfScript_63 (by decide) ?_
          exact ih22 (k + 1) S'14 (by omega) (by omega) h16 (by rw [h17, hosP_t (by omega), hcp]) _ _ (hP.sub [0, 8, 9, 10, 11, 12, 3, 4, 5, 6, 7, 1, 2] rfl) (hD.sub [0, 8, 9, 10, 11, 12, 3, 4, 5, 6, 7, 1, 2] rfl rfl) hS _ (lv_sub hl [0, 2, 3, 4, 5] rfl)
  have hP : va_P D vwCl [(o, eEPR t0 a1 a2 w0 y0 s0 h0 g0 u0 v0), (wl, eRow bl (lenW L)), (bl, eArr cI 9 lw), (u0, eRow ua n), (ua, eArr cI 6 tk), (w0, eWay wb wl), (wb, eRow bb (lenW L)), (bb, eArr cI 9 bt), (s0, eSnd v1 l1), (v1, eRow va 150), (va, eArr cI 150 (((upN S.1 (bt 0 + i) 0, upN S.2 (bt 0 + i) 0)).2)), (l1, eRow la 150), (la, eArr cI 150 (((upN S.1 (bt 0 + i) 0, upN S.2 (bt 0 + i) 0)).1))] H := hP
  have hD : va_D A [(o, eEPR t0 a1 a2 w0 y0 s0 h0 g0 u0 v0), (wl, eRow bl (lenW L)), (bl, eArr cI 9 lw), (u0, eRow ua n), (ua, eArr cI 6 tk), (w0, eWay wb wl), (wb, eRow bb (lenW L)), (bb, eArr cI 9 bt), (s0, eSnd v1 l1), (v1, eRow va 150), (va, eArr cI 150 (((upN S.1 (bt 0 + i) 0, upN S.2 (bt 0 + i) 0)).2)), (l1, eRow la 150), (la, eArr cI 150 (((upN S.1 (bt 0 + i) 0, upN S.2 (bt 0 + i) 0)).1))] := hD
  exact loop22 _ 0 ((upN S.1 (bt 0 + i) 0, upN S.2 (bt 0 + i) 0)) (Nat.lt_succ_self _) (by omega) (fun j => ⟨upN_bd (fun q => (hS0 q).1) (by omega) j, upN_bd (fun q => (hS0 q).2) (by omega) j⟩) (by show (upN S.1 (bt 0 + i) 0 (bt 0 + i), upN S.2 (bt 0 + i) 0 (bt 0 + i)) = _; rw [upN_s, upN_s]; rfl) _ _ (hP.sub [0, 5, 6, 7, 1, 2, 8, 9, 10, 11, 12, 3, 4] rfl) (hD.sub [0, 5, 6, 7, 1, 2, 8, 9, 10, 11, 12, 3, 4] rfl rfl) hS _ (lv_sub hl [0, 1, 2, 3, 4] rfl)

set_option maxRecDepth 100000 in
set_option maxHeartbeats 4000000 in
theorem c_X6_givesTalk (l : Launch) (D : va_G) (cI cC : ClassId) (o : Nat) (t0 : Nat) (a1 : Nat) (a2 : Nat) (w0 : Nat) (y0 : Nat) (s0 : Nat) (h0 : Nat) (g0 : Nat) (u0 : Nat) (v0 : Nat) (wb : Nat) (bb : Nat) (wl : Nat) (bl : Nat) (v1 : Nat) (va : Nat) (l1 : Nat) (la : Nat) (bt : Nat → Nat) (lw : Nat → Nat) (L : List (Nat × Nat)) (S : Snd) (ua : Nat) (tk : Nat → Nat) (n : Nat) (sc : Nat) (hsc : sc < 4096) (hb40 : bt 0 ≤ 40) (hS0 : okS S) (hrep : repW bt lw L) (hL9 : lenW L ≤ 9) (h0L : 0 < lenW L) (hn6 : n ≤ 6) (htk : ∀ j, j < n → tk j ≤ 3) : mtI l D cI cC yX6_givesTalk wsX6_givesTalk ({ frames := 4, cells := 0, slots := 0, locals := 98 }) [.ref o, .int (nI sc)] [(o, eEPR t0 a1 a2 w0 y0 s0 h0 g0 u0 v0), (w0, eWay wb wl), (wb, eRow bb (lenW L)), (bb, eArr cI 9 bt), (wl, eRow bl (lenW L)), (bl, eArr cI 9 lw), (s0, eSnd v1 l1), (v1, eRow va 150), (va, eArr cI 150 S.2), (l1, eRow la 150), (la, eArr cI 150 S.1), (u0, eRow ua n), (ua, eArr cI 6 tk)] (fun (r : Int32) (S' : Snd) => (r = (nI 1) ∧ gtM L (bt 0) sc n tk = true ∧ okS S') ∨ (r = (nI 0) ∧ gtM L (bt 0) sc n tk = false ∧ okS S')) (fun (S' : Snd) => [(o, eEPR t0 a1 a2 w0 y0 s0 h0 g0 u0 v0), (w0, eWay wb wl), (wb, eRow bb (lenW L)), (bb, eArr cI 9 bt), (wl, eRow bl (lenW L)), (bl, eArr cI 9 lw), (s0, eSnd v1 l1), (v1, eRow va 150), (va, eArr cI 150 S'.2), (l1, eRow la 150), (la, eArr cI 150 S'.1), (u0, eRow ua n), (ua, eArr cI 6 tk)]) := by
  refine mtI_of (cc := cX6_givesTalk) (maxL := 3) (ret := (some .boolean)) (by decide) rfl rfl ?_
  intro p e s m below meth c A hx hb hml hr hts hown hlocks hN hA hK hP hD hS ls hl
  have hown : s.vm.findClass RX6 = some m.cls := hown
  have hl : lv_has ls 3 [(0, .ref o), (1, .int (nI sc))] := hl
  obtain ⟨H, hHe⟩ : ∃ H, H = s.heap := ⟨_, rfl⟩
  rw [← hHe] at hP ⊢
  have hS : va_S A s.heap H [] := by rw [hHe]; exact va_S.rf
  have fl58 := hts (.fieldLink RX6 58 "EchoPaysRent" "wanted" "LEchoPaysRent$Row;") (by decide +kernel)
  have inX6 : ∀ w ∈ wsX60, w ∈ wsX6_givesTalk := by decide +kernel
  refine lv_iconst (v := (nI 0)) hx hb dX6_givesTalk_0 (by decide) ?_
  refine lv_istore_n (lv' := [(2, .int (nI 0)), (0, .ref o), (1, .int (nI sc))]) hx hb dX6_givesTalk_1 rfl hl (by decide) rfl (fun ls hl => ?_)
  have loop2 : ∀ (nn2 : Nat) (i : Nat) (S' : Snd), n - i < nn2 → (i ≤ n) → (okS S') → (allB (gtB L (bt 0) sc n tk) i = true) → ∀ (H : Heap) (locs : List Loc), va_P D vwCl [(o, eEPR t0 a1 a2 w0 y0 s0 h0 g0 u0 v0), (w0, eWay wb wl), (wb, eRow bb (lenW L)), (bb, eArr cI 9 bt), (wl, eRow bl (lenW L)), (bl, eArr cI 9 lw), (s0, eSnd v1 l1), (v1, eRow va 150), (va, eArr cI 150 S'.2), (l1, eRow la 150), (la, eArr cI 150 S'.1), (u0, eRow ua n), (ua, eArr cI 6 tk)] H → va_D A [(o, eEPR t0 a1 a2 w0 y0 s0 h0 g0 u0 v0), (w0, eWay wb wl), (wb, eRow bb (lenW L)), (bb, eArr cI 9 bt), (wl, eRow bl (lenW L)), (bl, eArr cI 9 lw), (s0, eSnd v1 l1), (v1, eRow va 150), (va, eArr cI 150 S'.2), (l1, eRow la 150), (la, eArr cI 150 S'.1), (u0, eRow ua n), (ua, eArr cI 6 tk)] → va_S A s.heap H locs → ∀ ls : Array Slot, lv_has ls 3 [(2, .int (nI i)), (0, .ref o), (1, .int (nI sc))] → W p l e (headSpec wsX6_givesTalk ({ frames := 4, cells := 0, slots := 0, locals := 98 })).room s m ([.ref o, .int (nI sc)] : List Value).toArray below meth c H locs 0 0 (MQ below (va_Qi (fun (r : Int32) (S' : Snd) => (r = (nI 1) ∧ gtM L (bt 0) sc n tk = true ∧ okS S') ∨ (r = (nI 0) ∧ gtM L (bt 0) sc n tk = false ∧ okS S')) (ctB D cI cC (fun (S' : Snd) => [(o, eEPR t0 a1 a2 w0 y0 s0 h0 g0 u0 v0), (w0, eWay wb wl), (wb, eRow bb (lenW L)), (bb, eArr cI 9 bt), (wl, eRow bl (lenW L)), (bl, eArr cI 9 lw), (s0, eSnd v1 l1), (v1, eRow va 150), (va, eArr cI 150 S'.2), (l1, eRow la 150), (la, eArr cI 150 S'.1), (u0, eRow ua n), (ua, eArr cI 6 tk)]) A) A) ([.ref o, .int (nI sc)] : List Value).toArray s 0 0 A) (F0 m 2 ls []) := by
    intro nn2
    induction nn2 with
    | zero =>
      intro i S' hm1
      exact absurd hm1 (Nat.not_lt_zero _)
    | succ nn2 ih2 =>
      intro i S' hm1 hi2 hos hal H locs hP hD hS ls hl
      refine lv_iload_n hx hb dX6_givesTalk_2 rfl (lv_at hl 0 rfl) ?_
      refine lv_aload_n hx hb dX6_givesTalk_3 rfl (lv_at hl 1 rfl) ?_
      refine va_get (D := D) (ci := 6) (v := .ref u0) (C := RX6) (T := TX6) (N := 10) hx hb hts inX6 hown hK hP 0 rfl rfl 8 (by decide) fl58 (fun _ h9 => h9) rfl dX6_givesTalk_4 ?_
      refine k_V (q := (RX1, TX1, 2)) (ci := 1) (As := []) (wr := [(o, eEPR t0 a1 a2 w0 y0 s0 h0 g0 u0 v0), (w0, eWay wb wl), (wb, eRow bb (lenW L)), (bb, eArr cI 9 bt), (wl, eRow bl (lenW L)), (bl, eArr cI 9 lw), (s0, eSnd v1 l1), (v1, eRow va 150), (va, eArr cI 150 S'.2), (l1, eRow la 150), (la, eArr cI 150 S'.1)]) ⟨hx, hb, hml, hown, hts⟩ (c_X1_size l D cI cC u0 ua 6 tk n) (cwV 0 hts gX6_givesTalk_X1_size rfl rfl rfl (by decide +kernel) ⟨Nat.le_of_ble_eq_true rfl, Nat.le_of_ble_eq_true rfl⟩) rfl hl.1 rfl (Nat.le_of_ble_eq_true rfl) dX6_givesTalk_7 ⟨Nat.zero_le _, Nat.zero_le _⟩ hN hK hP hD hS hA rfl (q0 := 11) rfl [11, 12] [0, 1, 2, 3, 4, 5, 6, 7, 8, 9, 10] rfl rfl ⟨rfl, rfl, by decide⟩ (fun r3 u H locs w4 hP hD hS => ?_)
      obtain rfl : r3 = (nI n) := w4
      refine x_icmp_ge (tgt := 38) hx hb dX6_givesTalk_10 (by decide) (by omega) (by omega) (fun h5 => ?_) (fun h5 => ?_)
      · refine lv_iconst (v := (nI 1)) hx hb dX6_givesTalk_38 (by decide) ?_
        exact x_iret hx hb hr hlocks dX6_givesTalk_39 rfl (post := fun (r : Int32) (S' : Snd) => (r = (nI 1) ∧ gtM L (bt 0) sc n tk = true ∧ okS S') ∨ (r = (nI 0) ∧ gtM L (bt 0) sc n tk = false ∧ okS S')) (w1 := fun (S' : Snd) => [(o, eEPR t0 a1 a2 w0 y0 s0 h0 g0 u0 v0), (w0, eWay wb wl), (wb, eRow bb (lenW L)), (bb, eArr cI 9 bt), (wl, eRow bl (lenW L)), (bl, eArr cI 9 lw), (s0, eSnd v1 l1), (v1, eRow va 150), (va, eArr cI 150 S'.2), (l1, eRow la 150), (la, eArr cI 150 S'.1), (u0, eRow ua n), (ua, eArr cI 6 tk)]) S' (Or.inl ⟨rfl, by have en : i = n := (by omega); rw [en] at hal; exact hal, hos⟩) hK hP hD hS
      · refine lv_aload_n hx hb dX6_givesTalk_13 rfl (lv_at hl 1 rfl) ?_
        refine lv_iload_n hx hb dX6_givesTalk_14 rfl (lv_at hl 2 rfl) ?_
        refine lv_iload_n hx hb dX6_givesTalk_15 rfl (lv_at hl 0 rfl) ?_
        refine k_V (q := (RX6, TX6, 10)) (ci := 6) (As := [.int (nI sc), .int (nI i)]) (wr := []) ⟨hx, hb, hml, hown, hts⟩ (c_X6_heardOfScript l D cI cC o t0 a1 a2 w0 y0 s0 h0 g0 u0 v0 wb bb wl bl v1 va l1 la bt lw L S' ua tk n sc i (by omega) (by omega) (by omega) hos hrep (by omega) (by omega)) (cwV 2 hts gX6_givesTalk_X6_heardOfScript rfl rfl rfl (by decide +kernel) ⟨Nat.le_of_ble_eq_true rfl, Nat.le_of_ble_eq_true rfl⟩) rfl hl.1 rfl (Nat.le_of_ble_eq_true rfl) dX6_givesTalk_16 ⟨Nat.zero_le _, Nat.zero_le _⟩ hN hK hP hD hS hA rfl (q0 := 0) rfl [0, 1, 2, 3, 4, 5, 6, 7, 8, 9, 10, 11, 12] [] rfl rfl ⟨rfl, rfl, by decide⟩ (fun r6 u H locs w8 hP hD hS => ?_)
        obtain ⟨S'7, rfl⟩ : ∃ z, z = u := ⟨u, rfl⟩
        obtain ⟨rfl, h9⟩ : r6 = (nI ((hosP L (bt 0 + i) (lineM sc n) (i + 1)).2)) ∧ okS S'7 := w8
        have hrb := hosP_le L (bt 0 + i) (lineM sc n) (fun q => Nat.le_of_lt_succ (Nat.lt_of_lt_of_le (Nat.mod_lt _ (show 0 < 4 by omega)) (by omega))) (i + 1)
        refine lv_aload_n hx hb dX6_givesTalk_19 rfl (lv_at hl 1 rfl) ?_
        refine va_get (D := D) (ci := 6) (v := .ref u0) (C := RX6) (T := TX6) (N := 10) hx hb hts inX6 hown hK hP 0 rfl rfl 8 (by decide) fl58 (fun _ h9 => h9) rfl dX6_givesTalk_20 ?_
        refine lv_iload_n hx hb dX6_givesTalk_23 rfl (lv_at hl 0 rfl) ?_
        refine k_V (q := (RX1, TX1, 2)) (ci := 1) (As := [.int (nI i)]) (wr := [(o, eEPR t0 a1 a2 w0 y0 s0 h0 g0 u0 v0), (w0, eWay wb wl), (wb, eRow bb (lenW L)), (bb, eArr cI 9 bt), (wl, eRow bl (lenW L)), (bl, eArr cI 9 lw), (s0, eSnd v1 l1), (v1, eRow va 150), (va, eArr cI 150 S'7.2), (l1, eRow la 150), (la, eArr cI 150 S'7.1)]) ⟨hx, hb, hml, hown, hts⟩ (c_X1_at_lt l D cI cC u0 ua 6 tk n i (by omega) (by omega) (by omega)) (cwV 1 hts gX6_givesTalk_X1_at rfl rfl rfl (by decide +kernel) ⟨Nat.le_of_ble_eq_true rfl, Nat.le_of_ble_eq_true rfl⟩) rfl hl.1 rfl (Nat.le_of_ble_eq_true rfl) dX6_givesTalk_24 ⟨Nat.zero_le _, Nat.zero_le _⟩ hN hK hP hD hS hA rfl (q0 := 11) rfl [11, 12] [0, 1, 2, 3, 4, 5, 6, 7, 8, 9, 10] rfl rfl ⟨rfl, rfl, by decide⟩ (fun r10 u H locs w11 hP hD hS => ?_)
        obtain rfl : r10 = (nI (tk i)) := w11
        have htj := htk i (by omega)
        refine x_icmp_eq (tgt := 32) hx hb dX6_givesTalk_27 (by decide) (by omega) (by omega) (fun h12 => ?_) (fun h12 => ?_)
        · refine lv_iinc (v := (nI (i + 1))) (lv' := [(2, .int (nI (i + 1))), (0, .ref o), (1, .int (nI sc))]) hx hb dX6_givesTalk_32 hl (k := 0) rfl (nI_inc _ 1) (by decide) rfl (fun ls hl => ?_)
          refine lv_goto (tgt := 2) hx hb dX6_givesTalk_35 (by decide) ?_
          exact ih2 (i + 1) S'7 (by omega) (by omega) h9 (allB_s hal (decide_eq_true (by assumption))) _ _ (hP.sub [0, 1, 2, 3, 4, 5, 6, 7, 8, 9, 10, 11, 12] rfl) (hD.sub [0, 1, 2, 3, 4, 5, 6, 7, 8, 9, 10, 11, 12] rfl rfl) hS _ (lv_sub hl [0, 1, 2] rfl)
        · refine lv_iconst (v := (nI 0)) hx hb dX6_givesTalk_30 (by decide) ?_
          exact x_iret hx hb hr hlocks dX6_givesTalk_31 rfl (post := fun (r : Int32) (S' : Snd) => (r = (nI 1) ∧ gtM L (bt 0) sc n tk = true ∧ okS S') ∨ (r = (nI 0) ∧ gtM L (bt 0) sc n tk = false ∧ okS S')) (w1 := fun (S' : Snd) => [(o, eEPR t0 a1 a2 w0 y0 s0 h0 g0 u0 v0), (w0, eWay wb wl), (wb, eRow bb (lenW L)), (bb, eArr cI 9 bt), (wl, eRow bl (lenW L)), (bl, eArr cI 9 lw), (s0, eSnd v1 l1), (v1, eRow va 150), (va, eArr cI 150 S'.2), (l1, eRow la 150), (la, eArr cI 150 S'.1), (u0, eRow ua n), (ua, eArr cI 6 tk)]) S'7 (Or.inr ⟨rfl, allB_f (p := gtB L (bt 0) sc n tk) (i := i) (decide_eq_false (by assumption)) (by omega), h9⟩) hK hP hD hS
  exact loop2 _ 0 S (Nat.lt_succ_self _) (by omega) hS0 rfl _ _ (hP.sub [0, 1, 2, 3, 4, 5, 6, 7, 8, 9, 10, 11, 12] rfl) (hD.sub [0, 1, 2, 3, 4, 5, 6, 7, 8, 9, 10, 11, 12] rfl rfl) hS _ (lv_sub hl [0, 1, 2] rfl)

set_option maxRecDepth 100000 in
set_option maxHeartbeats 4000000 in
theorem c_X6_bestScript (l : Launch) (D : va_G) (cI cC : ClassId) (o : Nat) (t0 : Nat) (a2 : Nat) (w0 : Nat) (y0 : Nat) (s0 : Nat) (h0 : Nat) (g0 : Nat) (u0 : Nat) (v0 : Nat) (wb : Nat) (bb : Nat) (wl : Nat) (bl : Nat) (v1 : Nat) (va : Nat) (l1 : Nat) (la : Nat) (kw : Nat) (bt : Nat → Nat) (lw : Nat → Nat) (vg : Nat → Nat) (lg : Nat → Nat) (k1 : Nat) (k2 : Nat) (a : Nat) (b1 : Nat) (c1 : Nat) (b2 : Nat) (c2 : Nat) (cl : Nat → Nat) (nc : Nat) (wd : Nat → Nat) (nw : Nat) (sp : Nat) (he : Nat) (air : Nat) (sn : Nat) (ua : Nat) (tk : Nat → Nat) (n : Nat) (hnn : nc ≤ 4 ∧ nw ≤ 8) (hok : okC cl nc) (hokd : okD wd nw) (hsp : sp ≤ 40) (hair : air ≤ 99 ∧ sn < 2147483648) (hhe : he ≤ 40) (hn6 : n ≤ 6) (htk : ∀ j, j < n → tk j ≤ 3) : mtI l D cI cC yX6_bestScript wsX6_bestScript ({ frames := 5, cells := 0, slots := 0, locals := 120 }) [.ref o] [(o, eEPR t0 a a2 w0 y0 s0 h0 g0 u0 v0), (w0, eWay wb wl), (wb, eRow bb kw), (bb, eArr cI 9 bt), (wl, eRow bl kw), (bl, eArr cI 9 lw), (s0, eSnd v1 l1), (v1, eRow va k1), (va, eArr cI 150 vg), (l1, eRow la k2), (la, eArr cI 150 lg), (a, eCan b1 b2 sp he air sn), (b1, eRow c1 (3 * nc)), (c1, eArr cI 12 cl), (b2, eRow c2 (3 * nw)), (c2, eArr cI 24 wd), (u0, eRow ua n), (ua, eArr cI 6 tk)] (fun (r : Int32) ((btx, lwx, S') : (Nat → Nat) × (Nat → Nat) × Snd) => r = (iI ((bsM (fun s => gtM (waysM cl air sn sp he nc) (absd sp he) s n tk) (2 ^ (2 * n))).1))) (fun ((btx, lwx, S') : (Nat → Nat) × (Nat → Nat) × Snd) => [(o, eEPR t0 a a2 w0 y0 s0 h0 g0 u0 v0), (w0, eWay wb wl), (wb, eRow bb (lenW (waysM cl air sn sp he nc))), (bb, eArr cI 9 btx), (wl, eRow bl (lenW (waysM cl air sn sp he nc))), (bl, eArr cI 9 lwx), (s0, eSnd v1 l1), (v1, eRow va 150), (va, eArr cI 150 S'.2), (l1, eRow la 150), (la, eArr cI 150 S'.1), (a, eCan b1 b2 sp he air sn), (b1, eRow c1 (3 * nc)), (c1, eArr cI 12 cl), (b2, eRow c2 (3 * nw)), (c2, eArr cI 24 wd), (u0, eRow ua n), (ua, eArr cI 6 tk)]) := by
  refine mtI_of (cc := cX6_bestScript) (maxL := 5) (ret := (some .int)) (by decide) rfl rfl ?_
  intro p e s m below meth c A hx hb hml hr hts hown hlocks hN hA hK hP hD hS ls hl
  have hown : s.vm.findClass RX6 = some m.cls := hown
  have hl : lv_has ls 5 [(0, .ref o)] := hl
  obtain ⟨H, hHe⟩ : ∃ H, H = s.heap := ⟨_, rfl⟩
  rw [← hHe] at hP ⊢
  have hS : va_S A s.heap H [] := by rw [hHe]; exact va_S.rf
  have fl29 := hts (.fieldLink RX6 29 "EchoPaysRent" "ways" "LEchoPaysRent$Ways;") (by decide +kernel)
  have inX6 : ∀ w ∈ wsX60, w ∈ wsX6_bestScript := by decide +kernel
  have fl19 := hts (.fieldLink RX6 19 "EchoPaysRent" "canyon" "LEchoPaysRent$Canyon;") (by decide +kernel)
  have fn151 : (Cond.fieldLinkNest RX6 151 "EchoPaysRent$Canyon" "speaker" "I" "EchoPaysRent").before ([.ref o] : List Value).toArray s = true := nz_use hN (List.mem_of_getElem? (i := 1) rfl)
  have inX0 : ∀ w ∈ wsX00, w ∈ wsX6_bestScript := by decide +kernel
  have fn110 : (Cond.fieldLinkNest RX6 110 "EchoPaysRent$Canyon" "hearer" "I" "EchoPaysRent").before ([.ref o] : List Value).toArray s = true := nz_use hN (List.mem_of_getElem? (i := 2) rfl)
  have fl39 := hts (.fieldLink RX6 39 "EchoPaysRent" "sound" "LEchoPaysRent$Sound;") (by decide +kernel)
  have fl58 := hts (.fieldLink RX6 58 "EchoPaysRent" "wanted" "LEchoPaysRent$Row;") (by decide +kernel)
  refine lv_bipush (v := (iI (-4))) hx hb dX6_bestScript_0 (by decide) ?_
  refine lv_istore_n (lv' := [(1, .int (iI (-4))), (0, .ref o)]) hx hb dX6_bestScript_2 rfl hl (by decide) rfl (fun ls hl => ?_)
  refine lv_bipush (v := (nI 7)) hx hb dX6_bestScript_3 (by decide) ?_
  refine lv_istore_n (lv' := [(2, .int (nI 7)), (1, .int (iI (-4))), (0, .ref o)]) hx hb dX6_bestScript_5 rfl hl (by decide) rfl (fun ls hl => ?_)
  refine lv_aload_n hx hb dX6_bestScript_6 rfl (lv_at hl 2 rfl) ?_
  refine va_get (D := D) (ci := 6) (v := .ref w0) (C := RX6) (T := TX6) (N := 10) hx hb hts inX6 hown hK hP 0 rfl rfl 3 (by decide) fl29 (fun _ h9 => h9) rfl dX6_bestScript_7 ?_
  refine lv_aload_n hx hb dX6_bestScript_10 rfl (lv_at hl 2 rfl) ?_
  refine va_get (D := D) (ci := 6) (v := .ref a) (C := RX6) (T := TX6) (N := 10) hx hb hts inX6 hown hK hP 0 rfl rfl 1 (by decide) fl19 (fun _ h9 => h9) rfl dX6_bestScript_11 ?_
  refine lv_aload_n hx hb dX6_bestScript_14 rfl (lv_at hl 2 rfl) ?_
  refine va_get (D := D) (ci := 6) (v := .ref a) (C := RX6) (T := TX6) (N := 10) hx hb hts inX6 hown hK hP 0 rfl rfl 1 (by decide) fl19 (fun _ h9 => h9) rfl dX6_bestScript_15 ?_
  refine va_getN (D := D) (ci := 0) (v := .int (nI sp)) (C := RX0) (T := TX0) (N := 6) hx hb hts inX0 hown hK hP 11 rfl rfl 2 (by decide) fn151 (fun _ h9 => h9) rfl dX6_bestScript_18 ?_
  refine lv_aload_n hx hb dX6_bestScript_21 rfl (lv_at hl 2 rfl) ?_
  refine va_get (D := D) (ci := 6) (v := .ref a) (C := RX6) (T := TX6) (N := 10) hx hb hts inX6 hown hK hP 0 rfl rfl 1 (by decide) fl19 (fun _ h9 => h9) rfl dX6_bestScript_22 ?_
  refine va_getN (D := D) (ci := 0) (v := .int (nI he)) (C := RX0) (T := TX0) (N := 6) hx hb hts inX0 hown hK hP 11 rfl rfl 3 (by decide) fn110 (fun _ h9 => h9) rfl dX6_bestScript_25 ?_
  refine k_Vv (q := (RX5, TX5, 2)) (ci := 5) (As := [.ref a, .int (nI sp), .int (nI he)]) (wr := [(o, eEPR t0 a a2 w0 y0 s0 h0 g0 u0 v0), (s0, eSnd v1 l1), (v1, eRow va k1), (va, eArr cI 150 vg), (l1, eRow la k2), (la, eArr cI 150 lg), (b2, eRow c2 (3 * nw)), (c2, eArr cI 24 wd), (u0, eRow ua n), (ua, eArr cI 6 tk)]) ⟨hx, hb, hml, hown, hts⟩ (c_X5_trace l D cI cC w0 wb bb wl bl bt lw a b1 b2 sp he air sn c1 cl nc (by omega) sp he kw hok (by omega) (by omega) (by omega)) (cwV 3 hts gX6_bestScript_X5_trace rfl rfl rfl (by decide +kernel) ⟨Nat.le_of_ble_eq_true rfl, Nat.le_of_ble_eq_true rfl⟩) rfl hl.1 rfl (Nat.le_of_ble_eq_true rfl) dX6_bestScript_28 ⟨Nat.zero_le _, Nat.zero_le _⟩ hN hK hP hD hS hA rfl (q0 := 1) rfl [1, 2, 3, 4, 5, 11, 12, 13] [0, 6, 7, 8, 9, 10, 14, 15, 16, 17] rfl rfl ⟨rfl, rfl, by decide⟩ (fun u H locs w4 hP hD hS => ?_)
  obtain ⟨bt'2, lw'3⟩ := u
  have h5 : repW bt'2 lw'3 (waysM cl air sn sp he nc) := w4
  refine lv_aload_n hx hb dX6_bestScript_31 rfl (lv_at hl 2 rfl) ?_
  refine va_get (D := D) (ci := 6) (v := .ref s0) (C := RX6) (T := TX6) (N := 10) hx hb hts inX6 hown hK hP 0 rfl rfl 5 (by decide) fl39 (fun _ h9 => h9) rfl dX6_bestScript_32 ?_
  obtain ⟨btx, hbtx⟩ : ∃ z, z = bt'2 := ⟨_, rfl⟩
  obtain ⟨lwx, hlwx⟩ : ∃ z, z = lw'3 := ⟨_, rfl⟩
  rw [← hbtx] at hP hD; rw [← hlwx] at hP hD
  have hrp : repW btx lwx (waysM cl air sn sp he nc) := by rw [hbtx, hlwx]; exact h5
  refine k_Vv (q := (RX3, TX3, 2)) (ci := 3) (As := []) (wr := [(o, eEPR t0 a a2 w0 y0 s0 h0 g0 u0 v0), (b2, eRow c2 (3 * nw)), (c2, eArr cI 24 wd), (u0, eRow ua n), (ua, eArr cI 6 tk), (w0, eWay wb wl), (wb, eRow bb (lenW (waysM cl air sn sp he nc))), (bb, eArr cI 9 btx), (wl, eRow bl (lenW (waysM cl air sn sp he nc))), (bl, eArr cI 9 lwx), (a, eCan b1 b2 sp he air sn), (b1, eRow c1 (3 * nc)), (c1, eArr cI 12 cl)]) ⟨hx, hb, hml, hown, hts⟩ (c_X3_hush l D cI cC s0 v1 va l1 la vg lg k1 k2) (cwV 0 hts gX6_bestScript_X3_hush rfl rfl rfl (by decide +kernel) ⟨Nat.le_of_ble_eq_true rfl, Nat.le_of_ble_eq_true rfl⟩) rfl hl.1 rfl (Nat.le_of_ble_eq_true rfl) dX6_bestScript_35 ⟨Nat.zero_le _, Nat.zero_le _⟩ hN hK hP hD hS hA rfl (q0 := 1) rfl [1, 2, 3, 4, 5] [0, 6, 7, 8, 9, 10, 11, 12, 13, 14, 15, 16, 17] rfl rfl ⟨rfl, rfl, by decide⟩ (fun u H locs w7 hP hD hS => ?_)
  have f8 : 2 ^ (2 * n) ≤ 4096 := pow12 hn6
  have f9 : lenW (waysM cl air sn sp he nc) ≤ 1 + 2 * nc := waysM_lenW cl air sn sp he nc
  have f10 : 0 < lenW (waysM cl air sn sp he nc) := waysM_lp cl air sn sp he nc
  have hP : va_P D vwCl [(o, eEPR t0 a a2 w0 y0 s0 h0 g0 u0 v0), (b2, eRow c2 (3 * nw)), (c2, eArr cI 24 wd), (u0, eRow ua n), (ua, eArr cI 6 tk), (w0, eWay wb wl), (wb, eRow bb (lenW (waysM cl air sn sp he nc))), (bb, eArr cI 9 btx), (wl, eRow bl (lenW (waysM cl air sn sp he nc))), (bl, eArr cI 9 lwx), (a, eCan b1 b2 sp he air sn), (b1, eRow c1 (3 * nc)), (c1, eArr cI 12 cl), (s0, eSnd v1 l1), (v1, eRow va 150), (va, eArr cI 150 quietM.2), (l1, eRow la 150), (la, eArr cI 150 quietM.1)] H := hP
  have hD : va_D A [(o, eEPR t0 a a2 w0 y0 s0 h0 g0 u0 v0), (b2, eRow c2 (3 * nw)), (c2, eArr cI 24 wd), (u0, eRow ua n), (ua, eArr cI 6 tk), (w0, eWay wb wl), (wb, eRow bb (lenW (waysM cl air sn sp he nc))), (bb, eArr cI 9 btx), (wl, eRow bl (lenW (waysM cl air sn sp he nc))), (bl, eArr cI 9 lwx), (a, eCan b1 b2 sp he air sn), (b1, eRow c1 (3 * nc)), (c1, eArr cI 12 cl), (s0, eSnd v1 l1), (v1, eRow va 150), (va, eArr cI 150 quietM.2), (l1, eRow la 150), (la, eArr cI 150 quietM.1)] := hD
  refine lv_iconst (v := (nI 0)) hx hb dX6_bestScript_38 (by decide) ?_
  refine lv_istore_n (lv' := [(3, .int (nI 0)), (2, .int (nI 7)), (1, .int (iI (-4))), (0, .ref o)]) hx hb dX6_bestScript_39 rfl hl (by decide) rfl (fun ls hl => ?_)
  have loop40 : ∀ (nn40 : Nat) (sc : Nat) (S' : Snd), 2 ^ (2 * n) - sc < nn40 → (sc ≤ 2 ^ (2 * n)) → (okS S') → ∀ (H : Heap) (locs : List Loc), va_P D vwCl [(o, eEPR t0 a a2 w0 y0 s0 h0 g0 u0 v0), (w0, eWay wb wl), (wb, eRow bb (lenW (waysM cl air sn sp he nc))), (bb, eArr cI 9 btx), (wl, eRow bl (lenW (waysM cl air sn sp he nc))), (bl, eArr cI 9 lwx), (s0, eSnd v1 l1), (v1, eRow va 150), (va, eArr cI 150 S'.2), (l1, eRow la 150), (la, eArr cI 150 S'.1), (a, eCan b1 b2 sp he air sn), (b1, eRow c1 (3 * nc)), (c1, eArr cI 12 cl), (b2, eRow c2 (3 * nw)), (c2, eArr cI 24 wd), (u0, eRow ua n), (ua, eArr cI 6 tk)] H → va_D A [(o, eEPR t0 a a2 w0 y0 s0 h0 g0 u0 v0), (w0, eWay wb wl), (wb, eRow bb (lenW (waysM cl air sn sp he nc))), (bb, eArr cI 9 btx), (wl, eRow bl (lenW (waysM cl air sn sp he nc))), (bl, eArr cI 9 lwx), (s0, eSnd v1 l1), (v1, eRow va 150), (va, eArr cI 150 S'.2), (l1, eRow la 150), (la, eArr cI 150 S'.1), (a, eCan b1 b2 sp he air sn), (b1, eRow c1 (3 * nc)), (c1, eArr cI 12 cl), (b2, eRow c2 (3 * nw)), (c2, eArr cI 24 wd), (u0, eRow ua n), (ua, eArr cI 6 tk)] → va_S A s.heap H locs → ∀ ls : Array Slot, lv_has ls 5 [(3, .int (nI sc)), (1, .int (iI ((bsM (fun s => gtM (waysM cl air sn sp he nc) (absd sp he) s n tk) sc).1))), (2, .int (nI ((bsM (fun s => gtM (waysM cl air sn sp he nc) (absd sp he) s n tk) sc).2))), (0, .ref o)] → W p l e (headSpec wsX6_bestScript ({ frames := 5, cells := 0, slots := 0, locals := 120 })).room s m ([.ref o] : List Value).toArray below meth c H locs 0 0 (MQ below (va_Qi (fun (r : Int32) ((btx, lwx, S') : (Nat → Nat) × (Nat → Nat) × Snd) => r = (iI ((bsM (fun s => gtM (waysM cl air sn sp he nc) (absd sp he) s n tk) (2 ^ (2 * n))).1))) (ctB D cI cC (fun ((btx, lwx, S') : (Nat → Nat) × (Nat → Nat) × Snd) => [(o, eEPR t0 a a2 w0 y0 s0 h0 g0 u0 v0), (w0, eWay wb wl), (wb, eRow bb (lenW (waysM cl air sn sp he nc))), (bb, eArr cI 9 btx), (wl, eRow bl (lenW (waysM cl air sn sp he nc))), (bl, eArr cI 9 lwx), (s0, eSnd v1 l1), (v1, eRow va 150), (va, eArr cI 150 S'.2), (l1, eRow la 150), (la, eArr cI 150 S'.1), (a, eCan b1 b2 sp he air sn), (b1, eRow c1 (3 * nc)), (c1, eArr cI 12 cl), (b2, eRow c2 (3 * nw)), (c2, eArr cI 24 wd), (u0, eRow ua n), (ua, eArr cI 6 tk)]) A) A) ([.ref o] : List Value).toArray s 0 0 A) (F0 m 40 ls []) := by
    intro nn40
    induction nn40 with
    | zero =>
      intro sc S' hm11
      exact absurd hm11 (Nat.not_lt_zero _)
    | succ nn40 ih40 =>
      intro sc S' hm11 hi12 hos H locs hP hD hS ls hl
      refine lv_iload_n hx hb dX6_bestScript_40 rfl (lv_at hl 0 rfl) ?_
      refine lv_iconst (v := (nI 1)) hx hb dX6_bestScript_41 (by decide) ?_
      refine lv_iconst (v := (nI 2)) hx hb dX6_bestScript_42 (by decide) ?_
      refine lv_aload_n hx hb dX6_bestScript_43 rfl (lv_at hl 3 rfl) ?_
      refine va_get (D := D) (ci := 6) (v := .ref u0) (C := RX6) (T := TX6) (N := 10) hx hb hts inX6 hown hK hP 0 rfl rfl 8 (by decide) fl58 (fun _ h9 => h9) rfl dX6_bestScript_44 ?_
      refine k_V (q := (RX1, TX1, 2)) (ci := 1) (As := []) (wr := [(o, eEPR t0 a a2 w0 y0 s0 h0 g0 u0 v0), (w0, eWay wb wl), (wb, eRow bb (lenW (waysM cl air sn sp he nc))), (bb, eArr cI 9 btx), (wl, eRow bl (lenW (waysM cl air sn sp he nc))), (bl, eArr cI 9 lwx), (s0, eSnd v1 l1), (v1, eRow va 150), (va, eArr cI 150 S'.2), (l1, eRow la 150), (la, eArr cI 150 S'.1), (a, eCan b1 b2 sp he air sn), (b1, eRow c1 (3 * nc)), (c1, eArr cI 12 cl), (b2, eRow c2 (3 * nw)), (c2, eArr cI 24 wd)]) ⟨hx, hb, hml, hown, hts⟩ (c_X1_size l D cI cC u0 ua 6 tk n) (cwV 0 hts gX6_bestScript_X1_size rfl rfl rfl (by decide +kernel) ⟨Nat.le_of_ble_eq_true rfl, Nat.le_of_ble_eq_true rfl⟩) rfl hl.1 rfl (Nat.le_of_ble_eq_true rfl) dX6_bestScript_47 ⟨Nat.zero_le _, Nat.zero_le _⟩ hN hK hP hD hS hA rfl (q0 := 16) rfl [16, 17] [0, 1, 2, 3, 4, 5, 6, 7, 8, 9, 10, 11, 12, 13, 14, 15] rfl rfl ⟨rfl, rfl, by decide⟩ (fun r13 u H locs w14 hP hD hS => ?_)
      obtain rfl : r13 = (nI n) := w14
      refine x_imul hx hb dX6_bestScript_50 ?_
      refine x_shl1 hx hb dX6_bestScript_51 (by omega) ?_
      refine x_icmp_ge (tgt := 86) hx hb dX6_bestScript_52 (by decide) (by omega) (by omega) (fun h15 => ?_) (fun h15 => ?_)
      · have es : sc = 2 ^ (2 * n) := by omega
        rw [es] at hl
        refine lv_iload_n hx hb dX6_bestScript_86 rfl (lv_at hl 1 rfl) ?_
        exact x_iret hx hb hr hlocks dX6_bestScript_87 rfl (post := fun (r : Int32) ((btx, lwx, S') : (Nat → Nat) × (Nat → Nat) × Snd) => r = (iI ((bsM (fun s => gtM (waysM cl air sn sp he nc) (absd sp he) s n tk) (2 ^ (2 * n))).1))) (w1 := fun ((btx, lwx, S') : (Nat → Nat) × (Nat → Nat) × Snd) => [(o, eEPR t0 a a2 w0 y0 s0 h0 g0 u0 v0), (w0, eWay wb wl), (wb, eRow bb (lenW (waysM cl air sn sp he nc))), (bb, eArr cI 9 btx), (wl, eRow bl (lenW (waysM cl air sn sp he nc))), (bl, eArr cI 9 lwx), (s0, eSnd v1 l1), (v1, eRow va 150), (va, eArr cI 150 S'.2), (l1, eRow la 150), (la, eArr cI 150 S'.1), (a, eCan b1 b2 sp he air sn), (b1, eRow c1 (3 * nc)), (c1, eArr cI 12 cl), (b2, eRow c2 (3 * nw)), (c2, eArr cI 24 wd), (u0, eRow ua n), (ua, eArr cI 6 tk)]) (btx, lwx, S') rfl hK hP hD hS
      · have hbd := bsM_bd (fun s => gtM (waysM cl air sn sp he nc) (absd sp he) s n tk) sc
        have hwl := wiM_le sc
        refine lv_iload_n hx hb dX6_bestScript_55 rfl (lv_at hl 0 rfl) ?_
        refine k_S (As := [.int (nI sc)]) (wr := [(o, eEPR t0 a a2 w0 y0 s0 h0 g0 u0 v0), (w0, eWay wb wl), (wb, eRow bb (lenW (waysM cl air sn sp he nc))), (bb, eArr cI 9 btx), (wl, eRow bl (lenW (waysM cl air sn sp he nc))), (bl, eArr cI 9 lwx), (s0, eSnd v1 l1), (v1, eRow va 150), (va, eArr cI 150 S'.2), (l1, eRow la 150), (la, eArr cI 150 S'.1), (a, eCan b1 b2 sp he air sn), (b1, eRow c1 (3 * nc)), (c1, eArr cI 12 cl), (b2, eRow c2 (3 * nw)), (c2, eArr cI 24 wd), (u0, eRow ua n), (ua, eArr cI 6 tk)]) ⟨hx, hb, hml, hown, hts⟩ (c_X6_wordsIn l D cI cC sc (by omega)) (cwS 1 hts gX6_bestScript_X6_wordsIn rfl rfl rfl (by decide +kernel) ⟨Nat.le_of_ble_eq_true rfl, Nat.le_of_ble_eq_true rfl⟩) rfl hl.1 rfl (Nat.le_of_ble_eq_true rfl) dX6_bestScript_56 ⟨Nat.zero_le _, Nat.zero_le _⟩ hN hK hP hD hS hA [] [0, 1, 2, 3, 4, 5, 6, 7, 8, 9, 10, 11, 12, 13, 14, 15, 16, 17] rfl rfl ⟨rfl, rfl, by decide⟩ (fun r16 u H locs w17 hP hD hS => ?_)
        obtain rfl : r16 = (nI (wiM sc)) := w17
        refine lv_istore (lv' := [(4, .int (nI (wiM sc))), (3, .int (nI sc)), (1, .int (iI ((bsM (fun s => gtM (waysM cl air sn sp he nc) (absd sp he) s n tk) sc).1))), (2, .int (nI ((bsM (fun s => gtM (waysM cl air sn sp he nc) (absd sp he) s n tk) sc).2))), (0, .ref o)]) hx hb dX6_bestScript_59 hl (by decide) rfl (fun ls hl => ?_)
        refine lv_iload hx hb dX6_bestScript_61 (lv_at hl 0 rfl) ?_
        refine lv_iload_n hx hb dX6_bestScript_63 rfl (lv_at hl 3 rfl) ?_
        refine x_icmp_ge (tgt := 80) hx hb dX6_bestScript_64 (by decide) (by omega) (by omega) (fun h18 => ?_) (fun h18 => ?_)
        · refine lv_iinc (v := (nI (sc + 1))) (lv' := [(3, .int (nI (sc + 1))), (4, .int (nI (wiM sc))), (1, .int (iI ((bsM (fun s => gtM (waysM cl air sn sp he nc) (absd sp he) s n tk) sc).1))), (2, .int (nI ((bsM (fun s => gtM (waysM cl air sn sp he nc) (absd sp he) s n tk) sc).2))), (0, .ref o)]) hx hb dX6_bestScript_80 hl (k := 1) rfl (nI_inc _ 1) (by decide) rfl (fun ls hl => ?_)
          refine lv_goto (tgt := 40) hx hb dX6_bestScript_83 (by decide) ?_
          have hl : lv_has ls 5 [(3, .int (nI (sc + 1))), (1, .int (iI ((bsM (fun s => gtM (waysM cl air sn sp he nc) (absd sp he) s n tk) (sc + 1)).1))), (2, .int (nI ((bsM (fun s => gtM (waysM cl air sn sp he nc) (absd sp he) s n tk) (sc + 1)).2))), (0, .ref o)] := by have h := hl; have e := bsM_f (ok := (fun s => gtM (waysM cl air sn sp he nc) (absd sp he) s n tk)) (Or.inl (by omega)); rw [e]; have h := lv_sub h [0, 2, 3, 4] rfl; simp only [nI_iI] at h ⊢; exact h
          exact ih40 (sc + 1) S' (by omega) (by omega) hos _ _ (hP.sub [0, 1, 2, 3, 4, 5, 6, 7, 8, 9, 10, 11, 12, 13, 14, 15, 16, 17] rfl) (hD.sub [0, 1, 2, 3, 4, 5, 6, 7, 8, 9, 10, 11, 12, 13, 14, 15, 16, 17] rfl rfl) hS _ (lv_sub hl [0, 1, 2, 3] rfl)
        · refine lv_aload_n hx hb dX6_bestScript_67 rfl (lv_at hl 4 rfl) ?_
          refine lv_iload_n hx hb dX6_bestScript_68 rfl (lv_at hl 1 rfl) ?_
          refine k_V (q := (RX6, TX6, 10)) (ci := 6) (As := [.int (nI sc)]) (wr := [(a, eCan b1 b2 sp he air sn), (b1, eRow c1 (3 * nc)), (c1, eArr cI 12 cl), (b2, eRow c2 (3 * nw)), (c2, eArr cI 24 wd)]) ⟨hx, hb, hml, hown, hts⟩ (c_X6_givesTalk l D cI cC o t0 a a2 w0 y0 s0 h0 g0 u0 v0 wb bb wl bl v1 va l1 la btx lwx (waysM cl air sn sp he nc) S' ua tk n sc (by omega) (by rw [(rep_head hrp).1]; exact absd_le (by omega) (by omega)) hos hrp (by omega) (by omega) (by omega) (by omega)) (cwV 1 hts gX6_bestScript_X6_givesTalk rfl rfl rfl (by decide +kernel) ⟨Nat.le_of_ble_eq_true rfl, Nat.le_of_ble_eq_true rfl⟩) rfl hl.1 rfl (Nat.le_of_ble_eq_true rfl) dX6_bestScript_69 ⟨Nat.zero_le _, Nat.zero_le _⟩ hN hK hP hD hS hA rfl (q0 := 0) rfl [0, 1, 2, 3, 4, 5, 6, 7, 8, 9, 10, 16, 17] [11, 12, 13, 14, 15] rfl rfl ⟨rfl, rfl, by decide⟩ (fun r19 u H locs w21 hP hD hS => ?_)
          obtain ⟨S'20, rfl⟩ : ∃ z, z = u := ⟨u, rfl⟩
          obtain ⟨rfl, h22, h23⟩ | ⟨rfl, h24, h25⟩ : (r19 = (nI 1) ∧ gtM (waysM cl air sn sp he nc) (btx 0) sc n tk = true ∧ okS S'20) ∨ (r19 = (nI 0) ∧ gtM (waysM cl air sn sp he nc) (btx 0) sc n tk = false ∧ okS S'20) := w21
          · have hgt : gtM (waysM cl air sn sp he nc) (absd sp he) sc n tk = true := by have h := h22; rw [(rep_head hrp).1] at h; exact h
            refine x_if_eq (tgt := 80) hx hb dX6_bestScript_72 (by decide) (by omega) (fun h26 => False.elim (by omega)) (fun h26 => ?_)
            refine lv_iload_n hx hb dX6_bestScript_75 rfl (lv_at hl 1 rfl) ?_
            refine lv_istore_n (lv' := [(1, .int (nI sc)), (4, .int (nI (wiM sc))), (3, .int (nI sc)), (2, .int (nI ((bsM (fun s => gtM (waysM cl air sn sp he nc) (absd sp he) s n tk) sc).2))), (0, .ref o)]) hx hb dX6_bestScript_76 rfl hl (by decide) rfl (fun ls hl => ?_)
            refine lv_iload hx hb dX6_bestScript_77 (lv_at hl 1 rfl) ?_
            refine lv_istore_n (lv' := [(2, .int (nI (wiM sc))), (1, .int (nI sc)), (4, .int (nI (wiM sc))), (3, .int (nI sc)), (0, .ref o)]) hx hb dX6_bestScript_79 rfl hl (by decide) rfl (fun ls hl => ?_)
            refine lv_iinc (v := (nI (sc + 1))) (lv' := [(3, .int (nI (sc + 1))), (2, .int (nI (wiM sc))), (1, .int (nI sc)), (4, .int (nI (wiM sc))), (0, .ref o)]) hx hb dX6_bestScript_80 hl (k := 3) rfl (nI_inc _ 1) (by decide) rfl (fun ls hl => ?_)
            refine lv_goto (tgt := 40) hx hb dX6_bestScript_83 (by decide) ?_
            have hl : lv_has ls 5 [(3, .int (nI (sc + 1))), (1, .int (iI ((bsM (fun s => gtM (waysM cl air sn sp he nc) (absd sp he) s n tk) (sc + 1)).1))), (2, .int (nI ((bsM (fun s => gtM (waysM cl air sn sp he nc) (absd sp he) s n tk) (sc + 1)).2))), (0, .ref o)] := by have h := hl; have e := bsM_t (ok := (fun s => gtM (waysM cl air sn sp he nc) (absd sp he) s n tk)) (by omega) hgt; rw [e]; have h := lv_sub h [0, 2, 1, 4] rfl; simp only [nI_iI] at h ⊢; exact h
            exact ih40 (sc + 1) S'20 (by omega) (by omega) h23 _ _ (hP.sub [5, 6, 7, 8, 9, 10, 11, 12, 13, 14, 15, 0, 1, 2, 3, 4, 16, 17] rfl) (hD.sub [5, 6, 7, 8, 9, 10, 11, 12, 13, 14, 15, 0, 1, 2, 3, 4, 16, 17] rfl rfl) hS _ (lv_sub hl [0, 1, 2, 3] rfl)
          · have hgt : gtM (waysM cl air sn sp he nc) (absd sp he) sc n tk = false := by have h := h24; rw [(rep_head hrp).1] at h; exact h
            refine x_if_eq (tgt := 80) hx hb dX6_bestScript_72 (by decide) (by omega) (fun h27 => ?_) (fun h27 => False.elim (by omega))
            refine lv_iinc (v := (nI (sc + 1))) (lv' := [(3, .int (nI (sc + 1))), (4, .int (nI (wiM sc))), (1, .int (iI ((bsM (fun s => gtM (waysM cl air sn sp he nc) (absd sp he) s n tk) sc).1))), (2, .int (nI ((bsM (fun s => gtM (waysM cl air sn sp he nc) (absd sp he) s n tk) sc).2))), (0, .ref o)]) hx hb dX6_bestScript_80 hl (k := 1) rfl (nI_inc _ 1) (by decide) rfl (fun ls hl => ?_)
            refine lv_goto (tgt := 40) hx hb dX6_bestScript_83 (by decide) ?_
            have hl : lv_has ls 5 [(3, .int (nI (sc + 1))), (1, .int (iI ((bsM (fun s => gtM (waysM cl air sn sp he nc) (absd sp he) s n tk) (sc + 1)).1))), (2, .int (nI ((bsM (fun s => gtM (waysM cl air sn sp he nc) (absd sp he) s n tk) (sc + 1)).2))), (0, .ref o)] := by have h := hl; have e := bsM_f (ok := (fun s => gtM (waysM cl air sn sp he nc) (absd sp he) s n tk)) (Or.inr hgt); rw [e]; have h := lv_sub h [0, 2, 3, 4] rfl; simp only [nI_iI] at h ⊢; exact h
            exact ih40 (sc + 1) S'20 (by omega) (by omega) h25 _ _ (hP.sub [5, 6, 7, 8, 9, 10, 11, 12, 13, 14, 15, 0, 1, 2, 3, 4, 16, 17] rfl) (hD.sub [5, 6, 7, 8, 9, 10, 11, 12, 13, 14, 15, 0, 1, 2, 3, 4, 16, 17] rfl rfl) hS _ (lv_sub hl [0, 1, 2, 3] rfl)
  exact loop40 _ 0 quietM (Nat.lt_succ_self _) (Nat.zero_le _) okS_quiet _ _ (hP.sub [0, 5, 6, 7, 8, 9, 13, 14, 15, 16, 17, 10, 11, 12, 1, 2, 3, 4] rfl) (hD.sub [0, 5, 6, 7, 8, 9, 13, 14, 15, 16, 17, 10, 11, 12, 1, 2, 3, 4] rfl rfl) hS _ (lv_sub hl [0, 2, 1, 3] rfl)
