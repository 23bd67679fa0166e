theorem fill_step {g : Nat → Nat} {i x : Nat} (h : ∀ j, j < i → g j = x) : ∀ j, j < i + 1 → upN g i x j = x := by
  intro j hj
  unfold upN
  split
  · rfl
  · exact h j (by omega)

set_option maxRecDepth 100000 in
set_option maxHeartbeats 4000000 in
theorem c_J7_fill_53178 (l : Launch) (D : va_G) (cI cC : ClassId) (qa : Nat) (n : Nat) (g : Nat → Nat) (x : Nat) (hn : n < 2147483648) : mtV l D cI cC yJ7_fill_53178 wsJ7_fill_53178 ({ frames := 0, cells := 0, slots := 0, locals := 0 }) [.ref qa, .int (nI x)] [(qa, eArr cI n g)] (fun (_ : Unit) => True) (fun (_ : Unit) => [(qa, eArr cI n (fun _ => x))]) := by
  refine mtV_of (cc := cJ7_fill_53178) (maxL := 4) (ret := none) (by decide) rfl rfl ?_
  intro p e s m below meth c A hx hb hml hr hts hown hlocks hN hA hK hP hD hS ls hl
  have hown : s.vm.findClass RJ7 = some m.cls := hown
  have hl : lv_has ls 4 [(0, .ref qa), (1, .int (nI x))] := hl
  obtain ⟨H, hHe⟩ : ∃ H, H = s.heap := ⟨_, rfl⟩
  rw [← hHe] at hP ⊢
  have hS : va_S A s.heap H [] := by rw [hHe]; exact va_S.rf
  refine lv_iconst (v := (nI 0)) hx hb dJ7_fill_53178_0 (by decide) ?_
  refine lv_istore_n (lv' := [(2, .int (nI 0)), (0, .ref qa), (1, .int (nI x))]) hx hb dJ7_fill_53178_1 rfl hl (by decide) rfl (fun ls hl => ?_)
  refine lv_aload_n hx hb dJ7_fill_53178_2 rfl (lv_at hl 1 rfl) ?_
  refine va_alen hx hb hK hP 0 0 rfl rfl (v := (nI n)) rfl dJ7_fill_53178_3 ?_
  refine lv_istore_n (lv' := [(3, .int (nI n)), (2, .int (nI 0)), (0, .ref qa), (1, .int (nI x))]) hx hb dJ7_fill_53178_4 rfl hl (by decide) rfl (fun ls hl => ?_)
  have loop5 : ∀ (nn5 : Nat) (i : Nat) (g' : Nat → Nat), n - i < nn5 → (i ≤ n) → (∀ j, j < i → g' j = x) → ∀ (H : Heap) (locs : List Loc), va_P D vwCl [(qa, eArr cI n g')] H → va_D A [(qa, eArr cI n g')] → va_S A s.heap H locs → ∀ ls : Array Slot, lv_has ls 4 [(3, .int (nI n)), (2, .int (nI i)), (0, .ref qa), (1, .int (nI x))] → W p l e (headSpec wsJ7_fill_53178 ({ frames := 0, cells := 0, slots := 0, locals := 0 })).room s m ([.ref qa, .int (nI x)] : List Value).toArray below meth c H locs 0 0 (MQ below (va_Qv (fun (_ : Unit) => True) (ctB D cI cC (fun (_ : Unit) => [(qa, eArr cI n (fun _ => x))]) A) A) ([.ref qa, .int (nI x)] : List Value).toArray s 0 0 A) (F0 m 5 ls []) := by
    intro nn5
    induction nn5 with
    | zero =>
      intro i g' hm1
      exact absurd hm1 (Nat.not_lt_zero _)
    | succ nn5 ih5 =>
      intro i g' hm1 hi2 hf H locs hP hD hS ls hl
      refine lv_iload_n hx hb dJ7_fill_53178_5 rfl (lv_at hl 1 rfl) ?_
      refine lv_iload_n hx hb dJ7_fill_53178_6 rfl (lv_at hl 0 rfl) ?_
      refine x_icmp_ge (tgt := 20) hx hb dJ7_fill_53178_7 (by decide) (by omega) (by omega) (fun h3 => ?_) (fun h3 => ?_)
      · have hP := va_P_arr (g' := fun _ => x) hP 0 rfl (fun j hj => hf j (by omega))
        have hD := hD.set (p := 0) (e := eArr cI n (fun _ => x)) rfl
        have hP : va_P D vwCl [(qa, eArr cI n (fun _ => x))] H := hP
        have hD : va_D A [(qa, eArr cI n (fun _ => x))] := hD
        exact x_vret hx hb hr hlocks dJ7_fill_53178_20 (post := fun (_ : Unit) => True) (w1 := fun (_ : Unit) => [(qa, eArr cI n (fun _ => x))]) () trivial hK hP hD hS
      · refine lv_aload_n hx hb dJ7_fill_53178_10 rfl (lv_at hl 2 rfl) ?_
        refine lv_iload_n hx hb dJ7_fill_53178_11 rfl (lv_at hl 1 rfl) ?_
        refine lv_iload_n hx hb dJ7_fill_53178_12 rfl (lv_at hl 3 rfl) ?_
        refine x_iast (A := A) hx hb hK hP hD hS 0 0 rfl rfl dJ7_fill_53178_13 (by omega) (by omega) (fun H locs hP hD hS => ?_)
        have hP : va_P D vwCl [(qa, eArr cI n (upN g' i x))] H := by have h := hP; rw [upd_nI] at h; exact h
        have hD : va_D A [(qa, eArr cI n (upN g' i x))] := by have h := hD; rw [upd_nI] at h; exact h
        refine lv_iinc (v := (nI (i + 1))) (lv' := [(2, .int (nI (i + 1))), (3, .int (nI n)), (0, .ref qa), (1, .int (nI x))]) hx hb dJ7_fill_53178_14 hl (k := 1) rfl (nI_inc _ 1) (by decide) rfl (fun ls hl => ?_)
        refine lv_goto (tgt := 5) hx hb dJ7_fill_53178_17 (by decide) ?_
        exact ih5 (i + 1) (upN g' i x) (by omega) (by omega) (fill_step hf) _ _ (hP.sub [0] rfl) (hD.sub [0] rfl rfl) hS _ (lv_sub hl [1, 0, 2, 3] rfl)
  exact loop5 _ 0 g (Nat.lt_succ_self _) (by omega) (fun j hj => absurd hj (Nat.not_lt_zero j)) _ _ (hP.sub [0] rfl) (hD.sub [0] rfl rfl) hS _ (lv_sub hl [0, 1, 2, 3] rfl)

set_option maxRecDepth 100000 in
set_option maxHeartbeats 4000000 in
theorem c_X1_fillWithZeros (l : Launch) (D : va_G) (cI cC : ClassId) (q : Nat) (qa : Nat) (n : Nat) (g : Nat → Nat) (k : Nat) (hn : n < 2147483648) : mtV l D cI cC yX1_fillWithZeros wsX1_fillWithZeros ({ frames := 1, cells := 0, slots := 0, locals := 23 }) [.ref q] [(q, eRow qa k), (qa, eArr cI n g)] (fun (_ : Unit) => True) (fun (_ : Unit) => [(q, eRow qa n), (qa, eArr cI n (fun _ => 0))]) := by
  refine mtV_of (cc := cX1_fillWithZeros) (maxL := 1) (ret := none) (by decide) rfl rfl ?_
  intro p e s m below meth c A hx hb hml hr hts hown hlocks hN hA hK hP hD hS ls hl
  have hown : s.vm.findClass RX1 = some m.cls := hown
  have hl : lv_has ls 1 [(0, .ref q)] := hl
  obtain ⟨H, hHe⟩ : ∃ H, H = s.heap := ⟨_, rfl⟩
  rw [← hHe] at hP ⊢
  have hS : va_S A s.heap H [] := by rw [hHe]; exact va_S.rf
  have fl15 := hts (.fieldLink RX1 15 "EchoPaysRent$Row" "cells" "[I") (by decide +kernel)
  have inX1 : ∀ w ∈ wsX10, w ∈ wsX1_fillWithZeros := by decide +kernel
  have fl21 := hts (.fieldLink RX1 21 "EchoPaysRent$Row" "size" "I") (by decide +kernel)
  refine lv_aload_n hx hb dX1_fillWithZeros_0 rfl (lv_at hl 0 rfl) ?_
  refine lv_aload_n hx hb dX1_fillWithZeros_1 rfl (lv_at hl 0 rfl) ?_
  refine va_get (D := D) (ci := 1) (v := .ref qa) (C := RX1) (T := TX1) (N := 2) hx hb hts inX1 hown hK hP 0 rfl rfl 0 (by decide) fl15 (fun _ h9 => h9) rfl dX1_fillWithZeros_2 ?_
  refine va_alen hx hb hK hP 1 0 rfl rfl (v := (nI n)) rfl dX1_fillWithZeros_5 ?_
  refine va_put (D := D) (ci := 1) (v := .int (nI n)) (ty := .int) (C := RX1) (T := TX1) (N := 2) hx hb hts inX1 tyX1 tyX1_ok nmX1 hown hK hP hD hS 0 rfl rfl 1 (by decide) fl21 (fun _ h9 => h9) rfl (by decide +kernel) rfl rfl (Nat.le_of_ble_eq_true rfl) dX1_fillWithZeros_6 (fun H locs hP hD hS => ?_)
  have hP : va_P D vwCl [(q, eRow qa n), (qa, eArr cI n g)] H := hP
  have hD : va_D A [(q, eRow qa n), (qa, eArr cI n g)] := hD
  refine lv_aload_n hx hb dX1_fillWithZeros_9 rfl (lv_at hl 0 rfl) ?_
  refine va_get (D := D) (ci := 1) (v := .ref qa) (C := RX1) (T := TX1) (N := 2) hx hb hts inX1 hown hK hP 0 rfl rfl 0 (by decide) fl15 (fun _ h9 => h9) rfl dX1_fillWithZeros_10 ?_
  refine lv_iconst (v := (nI 0)) hx hb dX1_fillWithZeros_13 (by decide) ?_
  refine k_Sv (As := [.ref qa, .int (nI 0)]) (wr := [(q, eRow qa n)]) ⟨hx, hb, hml, hown, hts⟩ (c_J7_fill_53178 l D cI cC qa n g 0 (by omega)) ⟨callB_of 2 hts ggX1_fillWithZeros_J7_fill_53178 rfl rfl rfl (hts (.initialized RJ7) (by decide +kernel)) (hts (.methodLink RX1 29 yJ7_fill_53178) (by decide +kernel)) (by decide +kernel) ⟨Nat.le_of_ble_eq_true rfl, Nat.le_of_ble_eq_true rfl⟩, hts (.static yJ7_fill_53178) (by decide +kernel)⟩ rfl hl.1 rfl (Nat.le_of_ble_eq_true rfl) dX1_fillWithZeros_14 ⟨Nat.zero_le _, Nat.zero_le _⟩ hN hK hP hD hS hA [1] [0] rfl rfl ⟨rfl, rfl, by decide⟩ (fun u H locs w2 hP hD hS => ?_)
  exact x_vret hx hb hr hlocks dX1_fillWithZeros_17 (post := fun (_ : Unit) => True) (w1 := fun (_ : Unit) => [(q, eRow qa n), (qa, eArr cI n (fun _ => 0))]) () trivial hK hP hD hS

set_option maxRecDepth 100000 in
set_option maxHeartbeats 4000000 in
theorem c_X3_hush (l : Launch) (D : va_G) (cI cC : ClassId) (s0 : Nat) (v1 : Nat) (va : Nat) (l1 : Nat) (la : Nat) (vg : Nat → Nat) (lg : Nat → Nat) (k1 : Nat) (k2 : Nat) : mtV l D cI cC yX3_hush wsX3_hush ({ frames := 2, cells := 0, slots := 0, locals := 43 }) [.ref s0] [(s0, eSnd v1 l1), (v1, eRow va k1), (va, eArr cI 150 vg), (l1, eRow la k2), (la, eArr cI 150 lg)] (fun (_ : Unit) => True) (fun (_ : Unit) => [(s0, eSnd v1 l1), (v1, eRow va 150), (va, eArr cI 150 quietM.2), (l1, eRow la 150), (la, eArr cI 150 quietM.1)]) := by
  refine mtV_of (cc := cX3_hush) (maxL := 1) (ret := none) (by decide) rfl rfl ?_
  intro p e s m below meth c A hx hb hml hr hts hown hlocks hN hA hK hP hD hS ls hl
  have hown : s.vm.findClass RX3 = some m.cls := hown
  have hl : lv_has ls 1 [(0, .ref s0)] := hl
  obtain ⟨H, hHe⟩ : ∃ H, H = s.heap := ⟨_, rfl⟩
  rw [← hHe] at hP ⊢
  have hS : va_S A s.heap H [] := by rw [hHe]; exact va_S.rf
  have fl14 := hts (.fieldLink RX3 14 "EchoPaysRent$Sound" "values" "LEchoPaysRent$Row;") (by decide +kernel)
  have inX3 : ∀ w ∈ wsX30, w ∈ wsX3_hush := by decide +kernel
  have fl20 := hts (.fieldLink RX3 20 "EchoPaysRent$Sound" "loudest" "LEchoPaysRent$Row;") (by decide +kernel)
  refine lv_aload_n hx hb dX3_hush_0 rfl (lv_at hl 0 rfl) ?_
  refine va_get (D := D) (ci := 3) (v := .ref v1) (C := RX3) (T := TX3) (N := 2) hx hb hts inX3 hown hK hP 0 rfl rfl 0 (by decide) fl14 (fun _ h9 => h9) rfl dX3_hush_1 ?_
  refine k_Vv (q := (RX1, TX1, 2)) (ci := 1) (As := []) (wr := [(s0, eSnd v1 l1), (l1, eRow la k2), (la, eArr cI 150 lg)]) ⟨hx, hb, hml, hown, hts⟩ (c_X1_fillWithZeros l D cI cC v1 va 150 vg k1 (by omega)) (cwV 0 hts gX3_hush_X1_fillWithZeros rfl rfl rfl (by decide +kernel) ⟨Nat.le_of_ble_eq_true rfl, Nat.le_of_ble_eq_true rfl⟩) rfl hl.1 rfl (Nat.le_of_ble_eq_true rfl) dX3_hush_4 ⟨Nat.zero_le _, Nat.zero_le _⟩ hN hK hP hD hS hA rfl (q0 := 1) rfl [1, 2] [0, 3, 4] rfl rfl ⟨rfl, rfl, by decide⟩ (fun u H locs w2 hP hD hS => ?_)
  refine lv_aload_n hx hb dX3_hush_7 rfl (lv_at hl 0 rfl) ?_
  refine va_get (D := D) (ci := 3) (v := .ref l1) (C := RX3) (T := TX3) (N := 2) hx hb hts inX3 hown hK hP 0 rfl rfl 1 (by decide) fl20 (fun _ h9 => h9) rfl dX3_hush_8 ?_
  refine k_Vv (q := (RX1, TX1, 2)) (ci := 1) (As := []) (wr := [(s0, eSnd v1 l1), (v1, eRow va 150), (va, eArr cI 150 (fun _ => 0))]) ⟨hx, hb, hml, hown, hts⟩ (c_X1_fillWithZeros l D cI cC l1 la 150 lg k2 (by omega)) (cwV 0 hts gX3_hush_X1_fillWithZeros rfl rfl rfl (by decide +kernel) ⟨Nat.le_of_ble_eq_true rfl, Nat.le_of_ble_eq_true rfl⟩) rfl hl.1 rfl (Nat.le_of_ble_eq_true rfl) dX3_hush_11 ⟨Nat.zero_le _, Nat.zero_le _⟩ hN hK hP hD hS hA rfl (q0 := 1) rfl [1, 2] [0, 3, 4] rfl rfl ⟨rfl, rfl, by decide⟩ (fun u H locs w4 hP hD hS => ?_)
  exact x_vret hx hb hr hlocks dX3_hush_14 (post := fun (_ : Unit) => True) (w1 := fun (_ : Unit) => [(s0, eSnd v1 l1), (v1, eRow va 150), (va, eArr cI 150 quietM.2), (l1, eRow la 150), (la, eArr cI 150 quietM.1)]) () trivial hK hP hD hS

set_option maxRecDepth 100000 in
set_option maxHeartbeats 4000000 in
theorem c_X3_valueAt_lt (l : Launch) (D : va_G) (cI cC : ClassId) (s0 : Nat) (v1 : Nat) (va : Nat) (l1 : Nat) (vg : Nat → Nat) (b : Nat) (hb1 : b < 150) : mtI l D cI cC yX3_valueAt wsX3_valueAt ({ frames := 1, cells := 0, slots := 0, locals := 21 }) [.ref s0, .int (nI b)] [(s0, eSnd v1 l1), (v1, eRow va 150), (va, eArr cI 150 vg)] (fun (r : Int32) (_ : Unit) => r = (nI (vg b))) (fun (_ : Unit) => [(s0, eSnd v1 l1), (v1, eRow va 150), (va, eArr cI 150 vg)]) := by
  refine mtI_of (cc := cX3_valueAt) (maxL := 2) (ret := (some .int)) (by decide) rfl rfl ?_
  intro p e s m below meth c A hx hb hml hr hts hown hlocks hN hA hK hP hD hS ls hl
  have hown : s.vm.findClass RX3 = some m.cls := hown
  have hl : lv_has ls 2 [(0, .ref s0), (1, .int (nI b))] := hl
  obtain ⟨H, hHe⟩ : ∃ H, H = s.heap := ⟨_, rfl⟩
  rw [← hHe] at hP ⊢
  have hS : va_S A s.heap H [] := by rw [hHe]; exact va_S.rf
  have fl14 := hts (.fieldLink RX3 14 "EchoPaysRent$Sound" "values" "LEchoPaysRent$Row;") (by decide +kernel)
  have inX3 : ∀ w ∈ wsX30, w ∈ wsX3_valueAt := by decide +kernel
  refine lv_aload_n hx hb dX3_valueAt_0 rfl (lv_at hl 0 rfl) ?_
  refine va_get (D := D) (ci := 3) (v := .ref v1) (C := RX3) (T := TX3) (N := 2) hx hb hts inX3 hown hK hP 0 rfl rfl 0 (by decide) fl14 (fun _ h9 => h9) rfl dX3_valueAt_1 ?_
  refine lv_iload_n hx hb dX3_valueAt_4 rfl (lv_at hl 1 rfl) ?_
  refine k_V (q := (RX1, TX1, 2)) (ci := 1) (As := [.int (nI b)]) (wr := [(s0, eSnd v1 l1)]) ⟨hx, hb, hml, hown, hts⟩ (c_X1_at_lt l D cI cC v1 va 150 vg 150 b (by omega) (by omega) (by omega)) (cwV 1 hts gX3_valueAt_X1_at rfl rfl rfl (by decide +kernel) ⟨Nat.le_of_ble_eq_true rfl, Nat.le_of_ble_eq_true rfl⟩) rfl hl.1 rfl (Nat.le_of_ble_eq_true rfl) dX3_valueAt_5 ⟨Nat.zero_le _, Nat.zero_le _⟩ hN hK hP hD hS hA rfl (q0 := 1) rfl [1, 2] [0] rfl rfl ⟨rfl, rfl, by decide⟩ (fun r1 u H locs w2 hP hD hS => ?_)
  obtain rfl : r1 = (nI (vg b)) := w2
  exact x_iret hx hb hr hlocks dX3_valueAt_8 rfl (post := fun (r : Int32) (_ : Unit) => r = (nI (vg b))) (w1 := fun (_ : Unit) => [(s0, eSnd v1 l1), (v1, eRow va 150), (va, eArr cI 150 vg)]) () rfl hK hP hD hS

set_option maxRecDepth 100000 in
set_option maxHeartbeats 4000000 in
theorem c_X3_loudnessAt_lt (l : Launch) (D : va_G) (cI cC : ClassId) (s0 : Nat) (v1 : Nat) (l1 : Nat) (la : Nat) (lg : Nat → Nat) (b : Nat) (hb1 : b < 150) : mtI l D cI cC yX3_loudnessAt wsX3_loudnessAt ({ frames := 1, cells := 0, slots := 0, locals := 21 }) [.ref s0, .int (nI b)] [(s0, eSnd v1 l1), (l1, eRow la 150), (la, eArr cI 150 lg)] (fun (r : Int32) (_ : Unit) => r = (nI (lg b))) (fun (_ : Unit) => [(s0, eSnd v1 l1), (l1, eRow la 150), (la, eArr cI 150 lg)]) := by
  refine mtI_of (cc := cX3_loudnessAt) (maxL := 2) (ret := (some .int)) (by decide) rfl rfl ?_
  intro p e s m below meth c A hx hb hml hr hts hown hlocks hN hA hK hP hD hS ls hl
  have hown : s.vm.findClass RX3 = some m.cls := hown
  have hl : lv_has ls 2 [(0, .ref s0), (1, .int (nI b))] := hl
  obtain ⟨H, hHe⟩ : ∃ H, H = s.heap := ⟨_, rfl⟩
  rw [← hHe] at hP ⊢
  have hS : va_S A s.heap H [] := by rw [hHe]; exact va_S.rf
  have fl20 := hts (.fieldLink RX3 20 "EchoPaysRent$Sound" "loudest" "LEchoPaysRent$Row;") (by decide +kernel)
  have inX3 : ∀ w ∈ wsX30, w ∈ wsX3_loudnessAt := by decide +kernel
  refine lv_aload_n hx hb dX3_loudnessAt_0 rfl (lv_at hl 0 rfl) ?_
  refine va_get (D := D) (ci := 3) (v := .ref l1) (C := RX3) (T := TX3) (N := 2) hx hb hts inX3 hown hK hP 0 rfl rfl 1 (by decide) fl20 (fun _ h9 => h9) rfl dX3_loudnessAt_1 ?_
  refine lv_iload_n hx hb dX3_loudnessAt_4 rfl (lv_at hl 1 rfl) ?_
  refine k_V (q := (RX1, TX1, 2)) (ci := 1) (As := [.int (nI b)]) (wr := [(s0, eSnd v1 l1)]) ⟨hx, hb, hml, hown, hts⟩ (c_X1_at_lt l D cI cC l1 la 150 lg 150 b (by omega) (by omega) (by omega)) (cwV 1 hts gX3_loudnessAt_X1_at rfl rfl rfl (by decide +kernel) ⟨Nat.le_of_ble_eq_true rfl, Nat.le_of_ble_eq_true rfl⟩) rfl hl.1 rfl (Nat.le_of_ble_eq_true rfl) dX3_loudnessAt_5 ⟨Nat.zero_le _, Nat.zero_le _⟩ hN hK hP hD hS hA rfl (q0 := 1) rfl [1, 2] [0] rfl rfl ⟨rfl, rfl, by decide⟩ (fun r1 u H locs w2 hP hD hS => ?_)
  obtain rfl : r1 = (nI (lg b)) := w2
  exact x_iret hx hb hr hlocks dX3_loudnessAt_8 rfl (post := fun (r : Int32) (_ : Unit) => r = (nI (lg b))) (w1 := fun (_ : Unit) => [(s0, eSnd v1 l1), (l1, eRow la 150), (la, eArr cI 150 lg)]) () rfl hK hP hD hS

set_option maxRecDepth 100000 in
set_option maxHeartbeats 4000000 in
theorem c_X3_hushBeat (l : Launch) (D : va_G) (cI cC : ClassId) (s0 : Nat) (v1 : Nat) (va : Nat) (l1 : Nat) (la : Nat) (vg : Nat → Nat) (lg : Nat → Nat) (b : Nat) (hb1 : b < 150) : mtV l D cI cC yX3_hushBeat wsX3_hushBeat ({ frames := 1, cells := 0, slots := 0, locals := 22 }) [.ref s0, .int (nI b)] [(s0, eSnd v1 l1), (v1, eRow va 150), (va, eArr cI 150 vg), (l1, eRow la 150), (la, eArr cI 150 lg)] (fun (_ : Unit) => True) (fun (_ : Unit) => [(s0, eSnd v1 l1), (v1, eRow va 150), (va, eArr cI 150 (upN vg b 0)), (l1, eRow la 150), (la, eArr cI 150 (upN lg b 0))]) := by
  refine mtV_of (cc := cX3_hushBeat) (maxL := 2) (ret := none) (by decide) rfl rfl ?_
  intro p e s m below meth c A hx hb hml hr hts hown hlocks hN hA hK hP hD hS ls hl
  have hown : s.vm.findClass RX3 = some m.cls := hown
  have hl : lv_has ls 2 [(0, .ref s0), (1, .int (nI b))] := hl
  obtain ⟨H, hHe⟩ : ∃ H, H = s.heap := ⟨_, rfl⟩
  rw [← hHe] at hP ⊢
  have hS : va_S A s.heap H [] := by rw [hHe]; exact va_S.rf
  have fl14 := hts (.fieldLink RX3 14 "EchoPaysRent$Sound" "values" "LEchoPaysRent$Row;") (by decide +kernel)
  have inX3 : ∀ w ∈ wsX30, w ∈ wsX3_hushBeat := by decide +kernel
  have fl20 := hts (.fieldLink RX3 20 "EchoPaysRent$Sound" "loudest" "LEchoPaysRent$Row;") (by decide +kernel)
  refine lv_aload_n hx hb dX3_hushBeat_0 rfl (lv_at hl 0 rfl) ?_
  refine va_get (D := D) (ci := 3) (v := .ref v1) (C := RX3) (T := TX3) (N := 2) hx hb hts inX3 hown hK hP 0 rfl rfl 0 (by decide) fl14 (fun _ h9 => h9) rfl dX3_hushBeat_1 ?_
  refine lv_iload_n hx hb dX3_hushBeat_4 rfl (lv_at hl 1 rfl) ?_
  refine lv_iconst (v := (nI 0)) hx hb dX3_hushBeat_5 (by decide) ?_
  refine k_Vv (q := (RX1, TX1, 2)) (ci := 1) (As := [.int (nI b), .int (nI 0)]) (wr := [(s0, eSnd v1 l1), (l1, eRow la 150), (la, eArr cI 150 lg)]) ⟨hx, hb, hml, hown, hts⟩ (c_X1_set_lt l D cI cC v1 va 150 vg 150 b 0 (by omega) (by omega) (by omega)) (cwV 2 hts gX3_hushBeat_X1_set rfl rfl rfl (by decide +kernel) ⟨Nat.le_of_ble_eq_true rfl, Nat.le_of_ble_eq_true rfl⟩) rfl hl.1 rfl (Nat.le_of_ble_eq_true rfl) dX3_hushBeat_6 ⟨Nat.zero_le _, Nat.zero_le _⟩ hN hK hP hD hS hA rfl (q0 := 1) rfl [1, 2] [0, 3, 4] rfl rfl ⟨rfl, rfl, by decide⟩ (fun u H locs w2 hP hD hS => ?_)
  refine lv_aload_n hx hb dX3_hushBeat_9 rfl (lv_at hl 0 rfl) ?_
  refine va_get (D := D) (ci := 3) (v := .ref l1) (C := RX3) (T := TX3) (N := 2) hx hb hts inX3 hown hK hP 0 rfl rfl 1 (by decide) fl20 (fun _ h9 => h9) rfl dX3_hushBeat_10 ?_
  refine lv_iload_n hx hb dX3_hushBeat_13 rfl (lv_at hl 1 rfl) ?_
  refine lv_iconst (v := (nI 0)) hx hb dX3_hushBeat_14 (by decide) ?_
  refine k_Vv (q := (RX1, TX1, 2)) (ci := 1) (As := [.int (nI b), .int (nI 0)]) (wr := [(s0, eSnd v1 l1), (v1, eRow va 150), (va, eArr cI 150 (upN vg b 0))]) ⟨hx, hb, hml, hown, hts⟩ (c_X1_set_lt l D cI cC l1 la 150 lg 150 b 0 (by omega) (by omega) (by omega)) (cwV 2 hts gX3_hushBeat_X1_set rfl rfl rfl (by decide +kernel) ⟨Nat.le_of_ble_eq_true rfl, Nat.le_of_ble_eq_true rfl⟩) rfl hl.1 rfl (Nat.le_of_ble_eq_true rfl) dX3_hushBeat_15 ⟨Nat.zero_le _, Nat.zero_le _⟩ hN hK hP hD hS hA rfl (q0 := 1) rfl [1, 2] [0, 3, 4] rfl rfl ⟨rfl, rfl, by decide⟩ (fun u H locs w4 hP hD hS => ?_)
  exact x_vret hx hb hr hlocks dX3_hushBeat_18 (post := fun (_ : Unit) => True) (w1 := fun (_ : Unit) => [(s0, eSnd v1 l1), (v1, eRow va 150), (va, eArr cI 150 (upN vg b 0)), (l1, eRow la 150), (la, eArr cI 150 (upN lg b 0))]) () trivial hK hP hD hS

set_option maxRecDepth 100000 in
set_option maxHeartbeats 4000000 in
theorem c_X3_come (l : Launch) (D : va_G) (cI cC : ClassId) (s0 : Nat) (v1 : Nat) (va : Nat) (l1 : Nat) (la : Nat) (S : Snd) (b : Nat) (z : Int) (v : Nat) (hb1 : b < 2147483648) (hz : -2147483648 ≤ z ∧ z < 2147483648) (hv : v < 2147483648) (hS0 : okS S) : mtV l D cI cC yX3_come wsX3_come ({ frames := 1, cells := 0, slots := 0, locals := 22 }) [.ref s0, .int (nI b), .int (iI z), .int (nI v)] [(s0, eSnd v1 l1), (v1, eRow va 150), (va, eArr cI 150 S.2), (l1, eRow la 150), (la, eArr cI 150 S.1)] (fun (_ : Unit) => True) (fun (_ : Unit) => [(s0, eSnd v1 l1), (v1, eRow va 150), (va, eArr cI 150 ((comeM S b z v).2)), (l1, eRow la 150), (la, eArr cI 150 ((comeM S b z v).1))]) := by
  refine mtV_of (cc := cX3_come) (maxL := 6) (ret := none) (by decide) rfl rfl ?_
  intro p e s m below meth c A hx hb hml hr hts hown hlocks hN hA hK hP hD hS ls hl
  have hown : s.vm.findClass RX3 = some m.cls := hown
  have hl : lv_has ls 6 [(0, .ref s0), (1, .int (nI b)), (2, .int (iI z)), (3, .int (nI v))] := hl
  obtain ⟨H, hHe⟩ : ∃ H, H = s.heap := ⟨_, rfl⟩
  rw [← hHe] at hP ⊢
  have hS : va_S A s.heap H [] := by rw [hHe]; exact va_S.rf
  have fl20 := hts (.fieldLink RX3 20 "EchoPaysRent$Sound" "loudest" "LEchoPaysRent$Row;") (by decide +kernel)
  have inX3 : ∀ w ∈ wsX30, w ∈ wsX3_come := by decide +kernel
  have fl14 := hts (.fieldLink RX3 14 "EchoPaysRent$Sound" "values" "LEchoPaysRent$Row;") (by decide +kernel)
  have hSb := hS0 b
  rcases Nat.lt_or_ge b 150 with hb2 | hb2
  · refine lv_aload_n hx hb dX3_come_0 rfl (lv_at hl 0 rfl) ?_
    refine va_get (D := D) (ci := 3) (v := .ref l1) (C := RX3) (T := TX3) (N := 2) hx hb hts inX3 hown hK hP 0 rfl rfl 1 (by decide) fl20 (fun _ h9 => h9) rfl dX3_come_1 ?_
    refine lv_iload_n hx hb dX3_come_4 rfl (lv_at hl 1 rfl) ?_
    refine k_V (q := (RX1, TX1, 2)) (ci := 1) (As := [.int (nI b)]) (wr := [(s0, eSnd v1 l1), (v1, eRow va 150), (va, eArr cI 150 S.2)]) ⟨hx, hb, hml, hown, hts⟩ (c_X1_at_lt l D cI cC l1 la 150 S.1 150 b (by omega) (by omega) (by omega)) (cwV 1 hts gX3_come_X1_at rfl rfl rfl (by decide +kernel) ⟨Nat.le_of_ble_eq_true rfl, Nat.le_of_ble_eq_true rfl⟩) rfl hl.1 rfl (Nat.le_of_ble_eq_true rfl) dX3_come_5 ⟨Nat.zero_le _, Nat.zero_le _⟩ hN hK hP hD hS hA rfl (q0 := 3) rfl [3, 4] [0, 1, 2] rfl rfl ⟨rfl, rfl, by decide⟩ (fun r1 u H locs w2 hP hD hS => ?_)
    obtain rfl : r1 = (nI (S.1 b)) := w2
    refine lv_istore (lv' := [(4, .int (nI (S.1 b))), (0, .ref s0), (1, .int (nI b)), (2, .int (iI z)), (3, .int (nI v))]) hx hb dX3_come_8 hl (by decide) rfl (fun ls hl => ?_)
    refine lv_iload_n hx hb dX3_come_10 rfl (lv_at hl 3 rfl) ?_
    refine z_if_le (tgt := 20) hx hb dX3_come_11 (by decide) (by omega) (fun h3 => ?_) (fun h3 => ?_)
    · have e4 : comeM S b z v = S := comeM_low (by omega)
      have hP : va_P D vwCl [(s0, eSnd v1 l1), (v1, eRow va 150), (va, eArr cI 150 ((comeM S b z v).2)), (l1, eRow la 150), (la, eArr cI 150 ((comeM S b z v).1))] H := by rw [e4]; exact hP
      have hD : va_D A [(s0, eSnd v1 l1), (v1, eRow va 150), (va, eArr cI 150 ((comeM S b z v).2)), (l1, eRow la 150), (la, eArr cI 150 ((comeM S b z v).1))] := by rw [e4]; exact hD
      exact x_vret hx hb hr hlocks dX3_come_20 (post := fun (_ : Unit) => True) (w1 := fun (_ : Unit) => [(s0, eSnd v1 l1), (v1, eRow va 150), (va, eArr cI 150 ((comeM S b z v).2)), (l1, eRow la 150), (la, eArr cI 150 ((comeM S b z v).1))]) () trivial hK hP hD hS
    · refine lv_iload_n hx hb dX3_come_14 rfl (lv_at hl 3 rfl) ?_
      refine lv_iload hx hb dX3_come_15 (lv_at hl 0 rfl) ?_
      refine x_top (nI_iI _) ?_
      refine z_icmp_ge (tgt := 21) hx hb dX3_come_17 (by decide) (by omega) (by omega) (fun h5 => ?_) (fun h5 => ?_)
      · obtain ⟨zn, hzn⟩ : ∃ n : Nat, z = (n : Int) := ⟨z.toNat, by omega⟩
        rw [hzn, ← nI_iI] at hl
        refine lv_iload_n hx hb dX3_come_21 rfl (lv_at hl 3 rfl) ?_
        refine lv_iload hx hb dX3_come_22 (lv_at hl 0 rfl) ?_
        refine x_icmp_ne (tgt := 43) hx hb dX3_come_24 (by decide) (by omega) (by omega) (fun h6 => ?_) (fun h6 => ?_)
        · refine lv_iconst (v := (nI 0)) hx hb dX3_come_43 (by decide) ?_
          refine lv_istore (lv' := [(5, .int (nI 0)), (4, .int (nI (S.1 b))), (0, .ref s0), (1, .int (nI b)), (2, .int (nI zn)), (3, .int (nI v))]) hx hb dX3_come_44 hl (by decide) rfl (fun ls hl => ?_)
          refine lv_aload_n hx hb dX3_come_46 rfl (lv_at hl 2 rfl) ?_
          refine va_get (D := D) (ci := 3) (v := .ref v1) (C := RX3) (T := TX3) (N := 2) hx hb hts inX3 hown hK hP 0 rfl rfl 0 (by decide) fl14 (fun _ h9 => h9) rfl dX3_come_47 ?_
          refine lv_iload_n hx hb dX3_come_50 rfl (lv_at hl 3 rfl) ?_
          refine lv_iload hx hb dX3_come_51 (lv_at hl 0 rfl) ?_
          refine x_if_eq (tgt := 61) hx hb dX3_come_53 (by decide) (by omega) (fun h7 => ?_) (fun h7 => False.elim (by omega))
          refine lv_iload_n hx hb dX3_come_61 rfl (lv_at hl 5 rfl) ?_
          refine k_Vv (q := (RX1, TX1, 2)) (ci := 1) (As := [.int (nI b), .int (nI v)]) (wr := [(s0, eSnd v1 l1), (l1, eRow la 150), (la, eArr cI 150 S.1)]) ⟨hx, hb, hml, hown, hts⟩ (c_X1_set_lt l D cI cC v1 va 150 S.2 150 b v (by omega) (by omega) (by omega)) (cwV 2 hts gX3_come_X1_set rfl rfl rfl (by decide +kernel) ⟨Nat.le_of_ble_eq_true rfl, Nat.le_of_ble_eq_true rfl⟩) rfl hl.1 rfl (Nat.le_of_ble_eq_true rfl) dX3_come_62 ⟨Nat.zero_le _, Nat.zero_le _⟩ hN hK hP hD hS hA rfl (q0 := 1) rfl [1, 2] [0, 3, 4] rfl rfl ⟨rfl, rfl, by decide⟩ (fun u H locs w9 hP hD hS => ?_)
          refine lv_aload_n hx hb dX3_come_65 rfl (lv_at hl 2 rfl) ?_
          refine va_get (D := D) (ci := 3) (v := .ref l1) (C := RX3) (T := TX3) (N := 2) hx hb hts inX3 hown hK hP 0 rfl rfl 1 (by decide) fl20 (fun _ h9 => h9) rfl dX3_come_66 ?_
          refine lv_iload_n hx hb dX3_come_69 rfl (lv_at hl 3 rfl) ?_
          refine lv_iload_n hx hb dX3_come_70 rfl (lv_at hl 4 rfl) ?_
          refine k_Vv (q := (RX1, TX1, 2)) (ci := 1) (As := [.int (nI b), .int (nI zn)]) (wr := [(s0, eSnd v1 l1), (v1, eRow va 150), (va, eArr cI 150 (upN S.2 b v))]) ⟨hx, hb, hml, hown, hts⟩ (c_X1_set_lt l D cI cC l1 la 150 S.1 150 b zn (by omega) (by omega) (by omega)) (cwV 2 hts gX3_come_X1_set rfl rfl rfl (by decide +kernel) ⟨Nat.le_of_ble_eq_true rfl, Nat.le_of_ble_eq_true rfl⟩) rfl hl.1 rfl (Nat.le_of_ble_eq_true rfl) dX3_come_71 ⟨Nat.zero_le _, Nat.zero_le _⟩ hN hK hP hD hS hA rfl (q0 := 1) rfl [1, 2] [0, 3, 4] rfl rfl ⟨rfl, rfl, by decide⟩ (fun u H locs w11 hP hD hS => ?_)
          have e12 : comeM S b z v = (upN S.1 b zn, upN S.2 b v) := by rw [hzn, comeM_set (by omega) (by omega) (by omega)]; first | rw [if_pos (by omega)] | rw [if_neg (by omega)]
          have hP : va_P D vwCl [(s0, eSnd v1 l1), (v1, eRow va 150), (va, eArr cI 150 ((comeM S b z v).2)), (l1, eRow la 150), (la, eArr cI 150 ((comeM S b z v).1))] H := by rw [e12]; exact hP
          have hD : va_D A [(s0, eSnd v1 l1), (v1, eRow va 150), (va, eArr cI 150 ((comeM S b z v).2)), (l1, eRow la 150), (la, eArr cI 150 ((comeM S b z v).1))] := by rw [e12]; exact hD
          exact x_vret hx hb hr hlocks dX3_come_74 (post := fun (_ : Unit) => True) (w1 := fun (_ : Unit) => [(s0, eSnd v1 l1), (v1, eRow va 150), (va, eArr cI 150 ((comeM S b z v).2)), (l1, eRow la 150), (la, eArr cI 150 ((comeM S b z v).1))]) () trivial hK hP hD hS
        · refine lv_aload_n hx hb dX3_come_27 rfl (lv_at hl 1 rfl) ?_
          refine va_get (D := D) (ci := 3) (v := .ref v1) (C := RX3) (T := TX3) (N := 2) hx hb hts inX3 hown hK hP 0 rfl rfl 0 (by decide) fl14 (fun _ h9 => h9) rfl dX3_come_28 ?_
          refine lv_iload_n hx hb dX3_come_31 rfl (lv_at hl 2 rfl) ?_
          refine k_V (q := (RX1, TX1, 2)) (ci := 1) (As := [.int (nI b)]) (wr := [(s0, eSnd v1 l1), (l1, eRow la 150), (la, eArr cI 150 S.1)]) ⟨hx, hb, hml, hown, hts⟩ (c_X1_at_lt l D cI cC v1 va 150 S.2 150 b (by omega) (by omega) (by omega)) (cwV 1 hts gX3_come_X1_at rfl rfl rfl (by decide +kernel) ⟨Nat.le_of_ble_eq_true rfl, Nat.le_of_ble_eq_true rfl⟩) rfl hl.1 rfl (Nat.le_of_ble_eq_true rfl) dX3_come_32 ⟨Nat.zero_le _, Nat.zero_le _⟩ hN hK hP hD hS hA rfl (q0 := 1) rfl [1, 2] [0, 3, 4] rfl rfl ⟨rfl, rfl, by decide⟩ (fun r13 u H locs w14 hP hD hS => ?_)
          obtain rfl : r13 = (nI (S.2 b)) := w14
          refine lv_iload_n hx hb dX3_come_35 rfl (lv_at hl 4 rfl) ?_
          refine x_icmp_eq (tgt := 43) hx hb dX3_come_36 (by decide) (by omega) (by omega) (fun h15 => ?_) (fun h15 => ?_)
          · refine lv_iconst (v := (nI 0)) hx hb dX3_come_43 (by decide) ?_
            refine lv_istore (lv' := [(5, .int (nI 0)), (4, .int (nI (S.1 b))), (0, .ref s0), (1, .int (nI b)), (2, .int (nI zn)), (3, .int (nI v))]) hx hb dX3_come_44 hl (by decide) rfl (fun ls hl => ?_)
            refine lv_aload_n hx hb dX3_come_46 rfl (lv_at hl 2 rfl) ?_
            refine va_get (D := D) (ci := 3) (v := .ref v1) (C := RX3) (T := TX3) (N := 2) hx hb hts inX3 hown hK hP 0 rfl rfl 0 (by decide) fl14 (fun _ h9 => h9) rfl dX3_come_47 ?_
            refine lv_iload_n hx hb dX3_come_50 rfl (lv_at hl 3 rfl) ?_
            refine lv_iload hx hb dX3_come_51 (lv_at hl 0 rfl) ?_
            refine x_if_eq (tgt := 61) hx hb dX3_come_53 (by decide) (by omega) (fun h16 => ?_) (fun h16 => False.elim (by omega))
            refine lv_iload_n hx hb dX3_come_61 rfl (lv_at hl 5 rfl) ?_
            refine k_Vv (q := (RX1, TX1, 2)) (ci := 1) (As := [.int (nI b), .int (nI v)]) (wr := [(s0, eSnd v1 l1), (l1, eRow la 150), (la, eArr cI 150 S.1)]) ⟨hx, hb, hml, hown, hts⟩ (c_X1_set_lt l D cI cC v1 va 150 S.2 150 b v (by omega) (by omega) (by omega)) (cwV 2 hts gX3_come_X1_set rfl rfl rfl (by decide +kernel) ⟨Nat.le_of_ble_eq_true rfl, Nat.le_of_ble_eq_true rfl⟩) rfl hl.1 rfl (Nat.le_of_ble_eq_true rfl) dX3_come_62 ⟨Nat.zero_le _, Nat.zero_le _⟩ hN hK hP hD hS hA rfl (q0 := 3) rfl [3, 4] [0, 1, 2] rfl rfl ⟨rfl, rfl, by decide⟩ (fun u H locs w18 hP hD hS => ?_)
            refine lv_aload_n hx hb dX3_come_65 rfl (lv_at hl 2 rfl) ?_
            refine va_get (D := D) (ci := 3) (v := .ref l1) (C := RX3) (T := TX3) (N := 2) hx hb hts inX3 hown hK hP 0 rfl rfl 1 (by decide) fl20 (fun _ h9 => h9) rfl dX3_come_66 ?_
            refine lv_iload_n hx hb dX3_come_69 rfl (lv_at hl 3 rfl) ?_
            refine lv_iload_n hx hb dX3_come_70 rfl (lv_at hl 4 rfl) ?_
            refine k_Vv (q := (RX1, TX1, 2)) (ci := 1) (As := [.int (nI b), .int (nI zn)]) (wr := [(s0, eSnd v1 l1), (v1, eRow va 150), (va, eArr cI 150 (upN S.2 b v))]) ⟨hx, hb, hml, hown, hts⟩ (c_X1_set_lt l D cI cC l1 la 150 S.1 150 b zn (by omega) (by omega) (by omega)) (cwV 2 hts gX3_come_X1_set rfl rfl rfl (by decide +kernel) ⟨Nat.le_of_ble_eq_true rfl, Nat.le_of_ble_eq_true rfl⟩) rfl hl.1 rfl (Nat.le_of_ble_eq_true rfl) dX3_come_71 ⟨Nat.zero_le _, Nat.zero_le _⟩ hN hK hP hD hS hA rfl (q0 := 1) rfl [1, 2] [0, 3, 4] rfl rfl ⟨rfl, rfl, by decide⟩ (fun u H locs w20 hP hD hS => ?_)
            have e21 : comeM S b z v = (upN S.1 b zn, upN S.2 b v) := by rw [hzn, comeM_set (by omega) (by omega) (by omega)]; first | rw [if_pos (by omega)] | rw [if_neg (by omega)]
            have hP : va_P D vwCl [(s0, eSnd v1 l1), (v1, eRow va 150), (va, eArr cI 150 ((comeM S b z v).2)), (l1, eRow la 150), (la, eArr cI 150 ((comeM S b z v).1))] H := by rw [e21]; exact hP
            have hD : va_D A [(s0, eSnd v1 l1), (v1, eRow va 150), (va, eArr cI 150 ((comeM S b z v).2)), (l1, eRow la 150), (la, eArr cI 150 ((comeM S b z v).1))] := by rw [e21]; exact hD
            exact x_vret hx hb hr hlocks dX3_come_74 (post := fun (_ : Unit) => True) (w1 := fun (_ : Unit) => [(s0, eSnd v1 l1), (v1, eRow va 150), (va, eArr cI 150 ((comeM S b z v).2)), (l1, eRow la 150), (la, eArr cI 150 ((comeM S b z v).1))]) () trivial hK hP hD hS
          · refine lv_iconst (v := (nI 1)) hx hb dX3_come_39 (by decide) ?_
            refine lv_goto (tgt := 44) hx hb dX3_come_40 (by decide) ?_
            refine lv_istore (lv' := [(5, .int (nI 1)), (4, .int (nI (S.1 b))), (0, .ref s0), (1, .int (nI b)), (2, .int (nI zn)), (3, .int (nI v))]) hx hb dX3_come_44 hl (by decide) rfl (fun ls hl => ?_)
            refine lv_aload_n hx hb dX3_come_46 rfl (lv_at hl 2 rfl) ?_
            refine va_get (D := D) (ci := 3) (v := .ref v1) (C := RX3) (T := TX3) (N := 2) hx hb hts inX3 hown hK hP 0 rfl rfl 0 (by decide) fl14 (fun _ h9 => h9) rfl dX3_come_47 ?_
            refine lv_iload_n hx hb dX3_come_50 rfl (lv_at hl 3 rfl) ?_
            refine lv_iload hx hb dX3_come_51 (lv_at hl 0 rfl) ?_
            refine x_if_eq (tgt := 61) hx hb dX3_come_53 (by decide) (by omega) (fun h22 => False.elim (by omega)) (fun h22 => ?_)
            refine lv_bipush (v := (nI 8)) hx hb dX3_come_56 (by decide) ?_
            refine lv_goto (tgt := 62) hx hb dX3_come_58 (by decide) ?_
            refine k_Vv (q := (RX1, TX1, 2)) (ci := 1) (As := [.int (nI b), .int (nI 8)]) (wr := [(s0, eSnd v1 l1), (l1, eRow la 150), (la, eArr cI 150 S.1)]) ⟨hx, hb, hml, hown, hts⟩ (c_X1_set_lt l D cI cC v1 va 150 S.2 150 b 8 (by omega) (by omega) (by omega)) (cwV 2 hts gX3_come_X1_set rfl rfl rfl (by decide +kernel) ⟨Nat.le_of_ble_eq_true rfl, Nat.le_of_ble_eq_true rfl⟩) rfl hl.1 rfl (Nat.le_of_ble_eq_true rfl) dX3_come_62 ⟨Nat.zero_le _, Nat.zero_le _⟩ hN hK hP hD hS hA rfl (q0 := 3) rfl [3, 4] [0, 1, 2] rfl rfl ⟨rfl, rfl, by decide⟩ (fun u H locs w24 hP hD hS => ?_)
            refine lv_aload_n hx hb dX3_come_65 rfl (lv_at hl 2 rfl) ?_
            refine va_get (D := D) (ci := 3) (v := .ref l1) (C := RX3) (T := TX3) (N := 2) hx hb hts inX3 hown hK hP 0 rfl rfl 1 (by decide) fl20 (fun _ h9 => h9) rfl dX3_come_66 ?_
            refine lv_iload_n hx hb dX3_come_69 rfl (lv_at hl 3 rfl) ?_
            refine lv_iload_n hx hb dX3_come_70 rfl (lv_at hl 4 rfl) ?_
            refine k_Vv (q := (RX1, TX1, 2)) (ci := 1) (As := [.int (nI b), .int (nI zn)]) (wr := [(s0, eSnd v1 l1), (v1, eRow va 150), (va, eArr cI 150 (upN S.2 b 8))]) ⟨hx, hb, hml, hown, hts⟩ (c_X1_set_lt l D cI cC l1 la 150 S.1 150 b zn (by omega) (by omega) (by omega)) (cwV 2 hts gX3_come_X1_set rfl rfl rfl (by decide +kernel) ⟨Nat.le_of_ble_eq_true rfl, Nat.le_of_ble_eq_true rfl⟩) rfl hl.1 rfl (Nat.le_of_ble_eq_true rfl) dX3_come_71 ⟨Nat.zero_le _, Nat.zero_le _⟩ hN hK hP hD hS hA rfl (q0 := 1) rfl [1, 2] [0, 3, 4] rfl rfl ⟨rfl, rfl, by decide⟩ (fun u H locs w26 hP hD hS => ?_)
            have e27 : comeM S b z v = (upN S.1 b zn, upN S.2 b 8) := by rw [hzn, comeM_set (by omega) (by omega) (by omega)]; first | rw [if_pos (by omega)] | rw [if_neg (by omega)]
            have hP : va_P D vwCl [(s0, eSnd v1 l1), (v1, eRow va 150), (va, eArr cI 150 ((comeM S b z v).2)), (l1, eRow la 150), (la, eArr cI 150 ((comeM S b z v).1))] H := by rw [e27]; exact hP
            have hD : va_D A [(s0, eSnd v1 l1), (v1, eRow va 150), (va, eArr cI 150 ((comeM S b z v).2)), (l1, eRow la 150), (la, eArr cI 150 ((comeM S b z v).1))] := by rw [e27]; exact hD
            exact x_vret hx hb hr hlocks dX3_come_74 (post := fun (_ : Unit) => True) (w1 := fun (_ : Unit) => [(s0, eSnd v1 l1), (v1, eRow va 150), (va, eArr cI 150 ((comeM S b z v).2)), (l1, eRow la 150), (la, eArr cI 150 ((comeM S b z v).1))]) () trivial hK hP hD hS
      · have e28 : comeM S b z v = S := comeM_low (by omega)
        have hP : va_P D vwCl [(s0, eSnd v1 l1), (v1, eRow va 150), (va, eArr cI 150 ((comeM S b z v).2)), (l1, eRow la 150), (la, eArr cI 150 ((comeM S b z v).1))] H := by rw [e28]; exact hP
        have hD : va_D A [(s0, eSnd v1 l1), (v1, eRow va 150), (va, eArr cI 150 ((comeM S b z v).2)), (l1, eRow la 150), (la, eArr cI 150 ((comeM S b z v).1))] := by rw [e28]; exact hD
        exact x_vret hx hb hr hlocks dX3_come_20 (post := fun (_ : Unit) => True) (w1 := fun (_ : Unit) => [(s0, eSnd v1 l1), (v1, eRow va 150), (va, eArr cI 150 ((comeM S b z v).2)), (l1, eRow la 150), (la, eArr cI 150 ((comeM S b z v).1))]) () trivial hK hP hD hS
  · refine lv_aload_n hx hb dX3_come_0 rfl (lv_at hl 0 rfl) ?_
    refine va_get (D := D) (ci := 3) (v := .ref l1) (C := RX3) (T := TX3) (N := 2) hx hb hts inX3 hown hK hP 0 rfl rfl 1 (by decide) fl20 (fun _ h9 => h9) rfl dX3_come_1 ?_
    refine lv_iload_n hx hb dX3_come_4 rfl (lv_at hl 1 rfl) ?_
    refine k_V (q := (RX1, TX1, 2)) (ci := 1) (As := [.int (nI b)]) (wr := [(s0, eSnd v1 l1), (v1, eRow va 150), (va, eArr cI 150 S.2)]) ⟨hx, hb, hml, hown, hts⟩ (c_X1_at_ge l D cI cC l1 la 150 S.1 150 b (by omega) (by omega) (by omega) (by omega)) (cwV 1 hts gX3_come_X1_at rfl rfl rfl (by decide +kernel) ⟨Nat.le_of_ble_eq_true rfl, Nat.le_of_ble_eq_true rfl⟩) rfl hl.1 rfl (Nat.le_of_ble_eq_true rfl) dX3_come_5 ⟨Nat.zero_le _, Nat.zero_le _⟩ hN hK hP hD hS hA rfl (q0 := 3) rfl [3, 4] [0, 1, 2] rfl rfl ⟨rfl, rfl, by decide⟩ (fun r29 u H locs w30 hP hD hS => ?_)
    obtain rfl : r29 = (nI 0) := w30
    refine lv_istore (lv' := [(4, .int (nI 0)), (0, .ref s0), (1, .int (nI b)), (2, .int (iI z)), (3, .int (nI v))]) hx hb dX3_come_8 hl (by decide) rfl (fun ls hl => ?_)
    refine lv_iload_n hx hb dX3_come_10 rfl (lv_at hl 3 rfl) ?_
    refine z_if_le (tgt := 20) hx hb dX3_come_11 (by decide) (by omega) (fun h31 => ?_) (fun h31 => ?_)
    · have e32 : comeM S b z v = S := comeM_ge hb2
      have hP : va_P D vwCl [(s0, eSnd v1 l1), (v1, eRow va 150), (va, eArr cI 150 ((comeM S b z v).2)), (l1, eRow la 150), (la, eArr cI 150 ((comeM S b z v).1))] H := by rw [e32]; exact hP
      have hD : va_D A [(s0, eSnd v1 l1), (v1, eRow va 150), (va, eArr cI 150 ((comeM S b z v).2)), (l1, eRow la 150), (la, eArr cI 150 ((comeM S b z v).1))] := by rw [e32]; exact hD
      exact x_vret hx hb hr hlocks dX3_come_20 (post := fun (_ : Unit) => True) (w1 := fun (_ : Unit) => [(s0, eSnd v1 l1), (v1, eRow va 150), (va, eArr cI 150 ((comeM S b z v).2)), (l1, eRow la 150), (la, eArr cI 150 ((comeM S b z v).1))]) () trivial hK hP hD hS
    · refine lv_iload_n hx hb dX3_come_14 rfl (lv_at hl 3 rfl) ?_
      refine lv_iload hx hb dX3_come_15 (lv_at hl 0 rfl) ?_
      refine x_top (nI_iI _) ?_
      refine z_icmp_ge (tgt := 21) hx hb dX3_come_17 (by decide) (by omega) (by omega) (fun h33 => ?_) (fun h33 => False.elim (by omega))
      obtain ⟨zn, hzn⟩ : ∃ n : Nat, z = (n : Int) := ⟨z.toNat, by omega⟩
      rw [hzn, ← nI_iI] at hl
      refine lv_iload_n hx hb dX3_come_21 rfl (lv_at hl 3 rfl) ?_
      refine lv_iload hx hb dX3_come_22 (lv_at hl 0 rfl) ?_
      refine x_icmp_ne (tgt := 43) hx hb dX3_come_24 (by decide) (by omega) (by omega) (fun h34 => ?_) (fun h34 => False.elim (by omega))
      refine lv_iconst (v := (nI 0)) hx hb dX3_come_43 (by decide) ?_
      refine lv_istore (lv' := [(5, .int (nI 0)), (4, .int (nI 0)), (0, .ref s0), (1, .int (nI b)), (2, .int (nI zn)), (3, .int (nI v))]) hx hb dX3_come_44 hl (by decide) rfl (fun ls hl => ?_)
      refine lv_aload_n hx hb dX3_come_46 rfl (lv_at hl 2 rfl) ?_
      refine va_get (D := D) (ci := 3) (v := .ref v1) (C := RX3) (T := TX3) (N := 2) hx hb hts inX3 hown hK hP 0 rfl rfl 0 (by decide) fl14 (fun _ h9 => h9) rfl dX3_come_47 ?_
      refine lv_iload_n hx hb dX3_come_50 rfl (lv_at hl 3 rfl) ?_
      refine lv_iload hx hb dX3_come_51 (lv_at hl 0 rfl) ?_
      refine x_if_eq (tgt := 61) hx hb dX3_come_53 (by decide) (by omega) (fun h35 => ?_) (fun h35 => False.elim (by omega))
      refine lv_iload_n hx hb dX3_come_61 rfl (lv_at hl 5 rfl) ?_
      refine k_Vv (q := (RX1, TX1, 2)) (ci := 1) (As := [.int (nI b), .int (nI v)]) (wr := [(s0, eSnd v1 l1), (l1, eRow la 150), (la, eArr cI 150 S.1)]) ⟨hx, hb, hml, hown, hts⟩ (c_X1_set_ge l D cI cC v1 va 150 S.2 150 b v (by omega) (by omega) (by omega) (by omega)) (cwV 2 hts gX3_come_X1_set rfl rfl rfl (by decide +kernel) ⟨Nat.le_of_ble_eq_true rfl, Nat.le_of_ble_eq_true rfl⟩) rfl hl.1 rfl (Nat.le_of_ble_eq_true rfl) dX3_come_62 ⟨Nat.zero_le _, Nat.zero_le _⟩ hN hK hP hD hS hA rfl (q0 := 1) rfl [1, 2] [0, 3, 4] rfl rfl ⟨rfl, rfl, by decide⟩ (fun u H locs w37 hP hD hS => ?_)
      refine lv_aload_n hx hb dX3_come_65 rfl (lv_at hl 2 rfl) ?_
      refine va_get (D := D) (ci := 3) (v := .ref l1) (C := RX3) (T := TX3) (N := 2) hx hb hts inX3 hown hK hP 0 rfl rfl 1 (by decide) fl20 (fun _ h9 => h9) rfl dX3_come_66 ?_
      refine lv_iload_n hx hb dX3_come_69 rfl (lv_at hl 3 rfl) ?_
      refine lv_iload_n hx hb dX3_come_70 rfl (lv_at hl 4 rfl) ?_
      refine k_Vv (q := (RX1, TX1, 2)) (ci := 1) (As := [.int (nI b), .int (nI zn)]) (wr := [(s0, eSnd v1 l1), (v1, eRow va 150), (va, eArr cI 150 S.2)]) ⟨hx, hb, hml, hown, hts⟩ (c_X1_set_ge l D cI cC l1 la 150 S.1 150 b zn (by omega) (by omega) (by omega) (by omega)) (cwV 2 hts gX3_come_X1_set rfl rfl rfl (by decide +kernel) ⟨Nat.le_of_ble_eq_true rfl, Nat.le_of_ble_eq_true rfl⟩) rfl hl.1 rfl (Nat.le_of_ble_eq_true rfl) dX3_come_71 ⟨Nat.zero_le _, Nat.zero_le _⟩ hN hK hP hD hS hA rfl (q0 := 1) rfl [1, 2] [0, 3, 4] rfl rfl ⟨rfl, rfl, by decide⟩ (fun u H locs w39 hP hD hS => ?_)
      have e40 : comeM S b z v = S := comeM_ge hb2
      have hP : va_P D vwCl [(s0, eSnd v1 l1), (v1, eRow va 150), (va, eArr cI 150 ((comeM S b z v).2)), (l1, eRow la 150), (la, eArr cI 150 ((comeM S b z v).1))] H := by rw [e40]; exact hP
      have hD : va_D A [(s0, eSnd v1 l1), (v1, eRow va 150), (va, eArr cI 150 ((comeM S b z v).2)), (l1, eRow la 150), (la, eArr cI 150 ((comeM S b z v).1))] := by rw [e40]; exact hD
      exact x_vret hx hb hr hlocks dX3_come_74 (post := fun (_ : Unit) => True) (w1 := fun (_ : Unit) => [(s0, eSnd v1 l1), (v1, eRow va 150), (va, eArr cI 150 ((comeM S b z v).2)), (l1, eRow la 150), (la, eArr cI 150 ((comeM S b z v).1))]) () trivial hK hP hD hS

set_option maxRecDepth 100000 in
set_option maxHeartbeats 4000000 in
theorem c_X3_carry (l : Launch) (D : va_G) (cI cC : ClassId) (s0 : Nat) (v1 : Nat) (va : Nat) (l1 : Nat) (la : Nat) (S : Snd) (w0 : Nat) (wb : Nat) (bb : Nat) (wl : Nat) (bl : Nat) (bt : Nat → Nat) (lw : Nat → Nat) (L : List (Nat × Nat)) (t : Nat) (v : Nat) (lv : Nat) (ht : t ≤ 1000) (hv : v < 1000) (hl0 : lv ≤ 1000) (hS0 : okS S) (hrep : repW bt lw L) (hL9 : lenW L ≤ 9) : mtV l D cI cC yX3_carry wsX3_carry ({ frames := 2, cells := 0, slots := 0, locals := 47 }) [.ref s0, .int (nI t), .int (nI v), .int (nI lv), .ref w0] [(s0, eSnd v1 l1), (v1, eRow va 150), (va, eArr cI 150 S.2), (l1, eRow la 150), (la, eArr cI 150 S.1), (w0, eWay wb wl), (wb, eRow bb (lenW L)), (bb, eArr cI 9 bt), (wl, eRow bl (lenW L)), (bl, eArr cI 9 lw)] (fun (_ : Unit) => True) (fun (_ : Unit) => [(s0, eSnd v1 l1), (v1, eRow va 150), (va, eArr cI 150 ((carryM S t v lv L).2)), (l1, eRow la 150), (la, eArr cI 150 ((carryM S t v lv L).1)), (w0, eWay wb wl), (wb, eRow bb (lenW L)), (bb, eArr cI 9 bt), (wl, eRow bl (lenW L)), (bl, eArr cI 9 lw)]) := by
  refine mtV_of (cc := cX3_carry) (maxL := 6) (ret := none) (by decide) rfl rfl ?_
  intro p e s m below meth c A hx hb hml hr hts hown hlocks hN hA hK hP hD hS ls hl
  have hown : s.vm.findClass RX3 = some m.cls := hown
  have hl : lv_has ls 6 [(0, .ref s0), (1, .int (nI t)), (2, .int (nI v)), (3, .int (nI lv)), (4, .ref w0)] := hl
  obtain ⟨H, hHe⟩ : ∃ H, H = s.heap := ⟨_, rfl⟩
  rw [← hHe] at hP ⊢
  have hS : va_S A s.heap H [] := by rw [hHe]; exact va_S.rf
  refine lv_iconst (v := (nI 0)) hx hb dX3_carry_0 (by decide) ?_
  refine lv_istore (lv' := [(5, .int (nI 0)), (0, .ref s0), (1, .int (nI t)), (2, .int (nI v)), (3, .int (nI lv)), (4, .ref w0)]) hx hb dX3_carry_1 hl (by decide) rfl (fun ls hl => ?_)
  have loop3 : ∀ (nn3 : Nat) (i : Nat), lenW L - i < nn3 → (i ≤ lenW L) → ∀ (H : Heap) (locs : List Loc), va_P D vwCl [(s0, eSnd v1 l1), (v1, eRow va 150), (va, eArr cI 150 ((carryM S t v lv (L.take i)).2)), (l1, eRow la 150), (la, eArr cI 150 ((carryM S t v lv (L.take i)).1)), (w0, eWay wb wl), (wb, eRow bb (lenW L)), (bb, eArr cI 9 bt), (wl, eRow bl (lenW L)), (bl, eArr cI 9 lw)] H → va_D A [(s0, eSnd v1 l1), (v1, eRow va 150), (va, eArr cI 150 ((carryM S t v lv (L.take i)).2)), (l1, eRow la 150), (la, eArr cI 150 ((carryM S t v lv (L.take i)).1)), (w0, eWay wb wl), (wb, eRow bb (lenW L)), (bb, eArr cI 9 bt), (wl, eRow bl (lenW L)), (bl, eArr cI 9 lw)] → va_S A s.heap H locs → ∀ ls : Array Slot, lv_has ls 6 [(5, .int (nI i)), (0, .ref s0), (1, .int (nI t)), (2, .int (nI v)), (3, .int (nI lv)), (4, .ref w0)] → W p l e (headSpec wsX3_carry ({ frames := 2, cells := 0, slots := 0, locals := 47 })).room s m ([.ref s0, .int (nI t), .int (nI v), .int (nI lv), .ref w0] : List Value).toArray below meth c H locs 0 0 (MQ below (va_Qv (fun (_ : Unit) => True) (ctB D cI cC (fun (_ : Unit) => [(s0, eSnd v1 l1), (v1, eRow va 150), (va, eArr cI 150 ((carryM S t v lv L).2)), (l1, eRow la 150), (la, eArr cI 150 ((carryM S t v lv L).1)), (w0, eWay wb wl), (wb, eRow bb (lenW L)), (bb, eArr cI 9 bt), (wl, eRow bl (lenW L)), (bl, eArr cI 9 lw)]) A) A) ([.ref s0, .int (nI t), .int (nI v), .int (nI lv), .ref w0] : List Value).toArray s 0 0 A) (F0 m 3 ls []) := by
    intro nn3
    induction nn3 with
    | zero =>
      intro i hm1
      exact absurd hm1 (Nat.not_lt_zero _)
    | succ nn3 ih3 =>
      intro i hm1 hi2 H locs hP hD hS ls hl
      refine lv_iload hx hb dX3_carry_3 (lv_at hl 0 rfl) ?_
      refine lv_aload hx hb dX3_carry_5 (lv_at hl 5 rfl) ?_
      refine k_V (q := (RX5, TX5, 2)) (ci := 5) (As := []) (wr := [(s0, eSnd v1 l1), (v1, eRow va 150), (va, eArr cI 150 ((carryM S t v lv (L.take i)).2)), (l1, eRow la 150), (la, eArr cI 150 ((carryM S t v lv (L.take i)).1)), (wl, eRow bl (lenW L)), (bl, eArr cI 9 lw)]) ⟨hx, hb, hml, hown, hts⟩ (c_X5_size l D cI cC w0 wb bb wl bt (lenW L)) (cwV 0 hts gX3_carry_X5_size rfl rfl rfl (by decide +kernel) ⟨Nat.le_of_ble_eq_true rfl, Nat.le_of_ble_eq_true rfl⟩) rfl hl.1 rfl (Nat.le_of_ble_eq_true rfl) dX3_carry_7 ⟨Nat.zero_le _, Nat.zero_le _⟩ hN hK hP hD hS hA rfl (q0 := 5) rfl [5, 6, 7] [0, 1, 2, 3, 4, 8, 9] rfl rfl ⟨rfl, rfl, by decide⟩ (fun r3 u H locs w4 hP hD hS => ?_)
      obtain rfl : r3 = (nI (lenW L)) := w4
      refine x_icmp_ge (tgt := 42) hx hb dX3_carry_10 (by decide) (by omega) (by omega) (fun h5 => ?_) (fun h5 => ?_)
      · have ei : i = lenW L := by omega
        have hP : va_P D vwCl [(s0, eSnd v1 l1), (v1, eRow va 150), (va, eArr cI 150 ((carryM S t v lv L).2)), (l1, eRow la 150), (la, eArr cI 150 ((carryM S t v lv L).1)), (wl, eRow bl (lenW L)), (bl, eArr cI 9 lw), (w0, eWay wb wl), (wb, eRow bb (lenW L)), (bb, eArr cI 9 bt)] H := by rw [show carryM S t v lv L = carryM S t v lv (L.take i) from by rw [ei, carryM_all]]; exact hP
        have hD : va_D A [(s0, eSnd v1 l1), (v1, eRow va 150), (va, eArr cI 150 ((carryM S t v lv L).2)), (l1, eRow la 150), (la, eArr cI 150 ((carryM S t v lv L).1)), (wl, eRow bl (lenW L)), (bl, eArr cI 9 lw), (w0, eWay wb wl), (wb, eRow bb (lenW L)), (bb, eArr cI 9 bt)] := by rw [show carryM S t v lv L = carryM S t v lv (L.take i) from by rw [ei, carryM_all]]; exact hD
        exact x_vret hx hb hr hlocks dX3_carry_42 (post := fun (_ : Unit) => True) (w1 := fun (_ : Unit) => [(s0, eSnd v1 l1), (v1, eRow va 150), (va, eArr cI 150 ((carryM S t v lv L).2)), (l1, eRow la 150), (la, eArr cI 150 ((carryM S t v lv L).1)), (w0, eWay wb wl), (wb, eRow bb (lenW L)), (bb, eArr cI 9 bt), (wl, eRow bl (lenW L)), (bl, eArr cI 9 lw)]) () trivial hK (hP.sub [0, 1, 2, 3, 4, 7, 8, 9, 5, 6] rfl) (hD.sub [0, 1, 2, 3, 4, 7, 8, 9, 5, 6] rfl rfl) hS
      · obtain ⟨-, -, hj6a, hj6b⟩ := hrep i (by omega)
        refine lv_aload_n hx hb dX3_carry_13 rfl (lv_at hl 1 rfl) ?_
        refine lv_iload_n hx hb dX3_carry_14 rfl (lv_at hl 2 rfl) ?_
        refine lv_aload hx hb dX3_carry_15 (lv_at hl 5 rfl) ?_
        refine lv_iload hx hb dX3_carry_17 (lv_at hl 0 rfl) ?_
        refine k_V (q := (RX5, TX5, 2)) (ci := 5) (As := [.int (nI i)]) (wr := [(s0, eSnd v1 l1), (v1, eRow va 150), (va, eArr cI 150 ((carryM S t v lv (L.take i)).2)), (l1, eRow la 150), (la, eArr cI 150 ((carryM S t v lv (L.take i)).1)), (wl, eRow bl (lenW L)), (bl, eArr cI 9 lw)]) ⟨hx, hb, hml, hown, hts⟩ (c_X5_later l D cI cC w0 wb bb wl bt (lenW L) i (by omega) (by omega)) (cwV 1 hts gX3_carry_X5_later rfl rfl rfl (by decide +kernel) ⟨Nat.le_of_ble_eq_true rfl, Nat.le_of_ble_eq_true rfl⟩) rfl hl.1 rfl (Nat.le_of_ble_eq_true rfl) dX3_carry_19 ⟨Nat.zero_le _, Nat.zero_le _⟩ hN hK hP hD hS hA rfl (q0 := 7) rfl [7, 8, 9] [0, 1, 2, 3, 4, 5, 6] rfl rfl ⟨rfl, rfl, by decide⟩ (fun r7 u H locs w8 hP hD hS => ?_)
        obtain rfl : r7 = (nI (bt i)) := w8
        refine x_iadd hx hb dX3_carry_22 ?_
        refine lv_iload_n hx hb dX3_carry_23 rfl (lv_at hl 4 rfl) ?_
        refine lv_aload hx hb dX3_carry_24 (lv_at hl 5 rfl) ?_
        refine lv_iload hx hb dX3_carry_26 (lv_at hl 0 rfl) ?_
        refine k_V (q := (RX5, TX5, 2)) (ci := 5) (As := [.int (nI i)]) (wr := [(s0, eSnd v1 l1), (v1, eRow va 150), (va, eArr cI 150 ((carryM S t v lv (L.take i)).2)), (l1, eRow la 150), (la, eArr cI 150 ((carryM S t v lv (L.take i)).1)), (wb, eRow bb (lenW L)), (bb, eArr cI 9 bt)]) ⟨hx, hb, hml, hown, hts⟩ (c_X5_weaker l D cI cC w0 wb wl bl lw (lenW L) i (by omega) (by omega)) (cwV 1 hts gX3_carry_X5_weaker rfl rfl rfl (by decide +kernel) ⟨Nat.le_of_ble_eq_true rfl, Nat.le_of_ble_eq_true rfl⟩) rfl hl.1 rfl (Nat.le_of_ble_eq_true rfl) dX3_carry_28 ⟨Nat.zero_le _, Nat.zero_le _⟩ hN hK hP hD hS hA rfl (q0 := 7) rfl [7, 5, 6] [0, 1, 2, 3, 4, 8, 9] rfl rfl ⟨rfl, rfl, by decide⟩ (fun r9 u H locs w10 hP hD hS => ?_)
        obtain rfl : r9 = (nI (lw i)) := w10
        refine x_isubZ hx hb dX3_carry_31 ?_
        refine lv_iload_n hx hb dX3_carry_32 rfl (lv_at hl 3 rfl) ?_
        refine k_Vv (q := (RX3, TX3, 2)) (ci := 3) (As := [.int (nI (t + bt i)), .int (iI (((lv : Nat) : Int) - ((lw i : Nat) : Int))), .int (nI v)]) (wr := [(wb, eRow bb (lenW L)), (bb, eArr cI 9 bt), (w0, eWay wb wl), (wl, eRow bl (lenW L)), (bl, eArr cI 9 lw)]) ⟨hx, hb, hml, hown, hts⟩ (c_X3_come l D cI cC s0 v1 va l1 la (carryM S t v lv (L.take i)) (t + bt i) (((lv : Nat) : Int) - ((lw i : Nat) : Int)) v (by omega) (by omega) (by omega) (okS_carry (by omega) (by omega) _ S hS0)) (cwV 3 hts gX3_carry_X3_come rfl rfl rfl (by decide +kernel) ⟨Nat.le_of_ble_eq_true rfl, Nat.le_of_ble_eq_true rfl⟩) rfl hl.1 rfl (Nat.le_of_ble_eq_true rfl) dX3_carry_33 ⟨Nat.zero_le _, Nat.zero_le _⟩ hN hK hP hD hS hA rfl (q0 := 0) rfl [0, 1, 2, 3, 4] [5, 6, 7, 8, 9] rfl rfl ⟨rfl, rfl, by decide⟩ (fun u H locs w12 hP hD hS => ?_)
        refine lv_iinc (v := (nI (i + 1))) (lv' := [(5, .int (nI (i + 1))), (0, .ref s0), (1, .int (nI t)), (2, .int (nI v)), (3, .int (nI lv)), (4, .ref w0)]) hx hb dX3_carry_36 hl (k := 0) rfl (nI_inc _ 1) (by decide) rfl (fun ls hl => ?_)
        refine lv_goto (tgt := 3) hx hb dX3_carry_39 (by decide) ?_
        have hP : va_P D vwCl [(wb, eRow bb (lenW L)), (bb, eArr cI 9 bt), (w0, eWay wb wl), (wl, eRow bl (lenW L)), (bl, eArr cI 9 lw), (s0, eSnd v1 l1), (v1, eRow va 150), (va, eArr cI 150 ((carryM S t v lv (L.take (i + 1))).2)), (l1, eRow la 150), (la, eArr cI 150 ((carryM S t v lv (L.take (i + 1))).1))] H := by rw [carryM_s hrep (by omega)]; exact hP
        have hD : va_D A [(wb, eRow bb (lenW L)), (bb, eArr cI 9 bt), (w0, eWay wb wl), (wl, eRow bl (lenW L)), (bl, eArr cI 9 lw), (s0, eSnd v1 l1), (v1, eRow va 150), (va, eArr cI 150 ((carryM S t v lv (L.take (i + 1))).2)), (l1, eRow la 150), (la, eArr cI 150 ((carryM S t v lv (L.take (i + 1))).1))] := by rw [carryM_s hrep (by omega)]; exact hD
        exact ih3 (i + 1) (by omega) (by omega) _ _ (hP.sub [5, 6, 7, 8, 9, 2, 0, 1, 3, 4] rfl) (hD.sub [5, 6, 7, 8, 9, 2, 0, 1, 3, 4] rfl rfl) hS _ (lv_sub hl [0, 1, 2, 3, 4, 5] rfl)
  have hP : va_P D vwCl [(s0, eSnd v1 l1), (v1, eRow va 150), (va, eArr cI 150 ((carryM S t v lv (L.take 0)).2)), (l1, eRow la 150), (la, eArr cI 150 ((carryM S t v lv (L.take 0)).1)), (w0, eWay wb wl), (wb, eRow bb (lenW L)), (bb, eArr cI 9 bt), (wl, eRow bl (lenW L)), (bl, eArr cI 9 lw)] H := by rw [carryM_0]; exact hP
  have hD : va_D A [(s0, eSnd v1 l1), (v1, eRow va 150), (va, eArr cI 150 ((carryM S t v lv (L.take 0)).2)), (l1, eRow la 150), (la, eArr cI 150 ((carryM S t v lv (L.take 0)).1)), (w0, eWay wb wl), (wb, eRow bb (lenW L)), (bb, eArr cI 9 bt), (wl, eRow bl (lenW L)), (bl, eArr cI 9 lw)] := by rw [carryM_0]; exact hD
  exact loop3 _ 0 (Nat.lt_succ_self _) (by omega) _ _ (hP.sub [0, 1, 2, 3, 4, 5, 6, 7, 8, 9] rfl) (hD.sub [0, 1, 2, 3, 4, 5, 6, 7, 8, 9] rfl rfl) hS _ (lv_sub hl [0, 1, 2, 3, 4, 5] rfl)

set_option maxRecDepth 100000 in
set_option maxHeartbeats 4000000 in
theorem c_X3_play (l : Launch) (D : va_G) (cI cC : ClassId) (s0 : Nat) (v1 : Nat) (va : Nat) (l1 : Nat) (la : Nat) (S : Snd) (a : Nat) (b1 : Nat) (b2 : Nat) (sp : Nat) (he : Nat) (air : Nat) (sn : Nat) (c2 : Nat) (wd : Nat → Nat) (nw : Nat) (w0 : Nat) (wb : Nat) (bb : Nat) (wl : Nat) (bl : Nat) (bt : Nat → Nat) (lw : Nat → Nat) (L : List (Nat × Nat)) (set : Nat) (d : Nat) (hd0 : d ≤ 100) (hset : set < 2147483648) (hnw : nw ≤ 8) (hS0 : okS S) (hrep : repW bt lw L) (hL9 : lenW L ≤ 9) (hokd : okD wd nw) : mtV l D cI cC yX3_play wsX3_play ({ frames := 3, cells := 0, slots := 0, locals := 72 }) [.ref s0, .ref a, .int (nI set), .ref w0, .int (nI d)] [(s0, eSnd v1 l1), (v1, eRow va 150), (va, eArr cI 150 S.2), (l1, eRow la 150), (la, eArr cI 150 S.1), (a, eCan b1 b2 sp he air sn), (b2, eRow c2 (3 * nw)), (c2, eArr cI 24 wd), (w0, eWay wb wl), (wb, eRow bb (lenW L)), (bb, eArr cI 9 bt), (wl, eRow bl (lenW L)), (bl, eArr cI 9 lw)] (fun (_ : Unit) => True) (fun (_ : Unit) => [(s0, eSnd v1 l1), (v1, eRow va 150), (va, eArr cI 150 ((playM S (onS set) wd L d nw).2)), (l1, eRow la 150), (la, eArr cI 150 ((playM S (onS set) wd L d nw).1)), (a, eCan b1 b2 sp he air sn), (b2, eRow c2 (3 * nw)), (c2, eArr cI 24 wd), (w0, eWay wb wl), (wb, eRow bb (lenW L)), (bb, eArr cI 9 bt), (wl, eRow bl (lenW L)), (bl, eArr cI 9 lw)]) := by
  refine mtV_of (cc := cX3_play) (maxL := 6) (ret := none) (by decide) rfl rfl ?_
  intro p e s m below meth c A hx hb hml hr hts hown hlocks hN hA hK hP hD hS ls hl
  have hown : s.vm.findClass RX3 = some m.cls := hown
  have hl : lv_has ls 6 [(0, .ref s0), (1, .ref a), (2, .int (nI set)), (3, .ref w0), (4, .int (nI d))] := hl
  obtain ⟨H, hHe⟩ : ∃ H, H = s.heap := ⟨_, rfl⟩
  rw [← hHe] at hP ⊢
  have hS : va_S A s.heap H [] := by rw [hHe]; exact va_S.rf
  refine lv_iconst (v := (nI 0)) hx hb dX3_play_0 (by decide) ?_
  refine lv_istore (lv' := [(5, .int (nI 0)), (0, .ref s0), (1, .ref a), (2, .int (nI set)), (3, .ref w0), (4, .int (nI d))]) hx hb dX3_play_1 hl (by decide) rfl (fun ls hl => ?_)
  have loop3 : ∀ (nn3 : Nat) (i : Nat), nw - i < nn3 → (i ≤ nw) → ∀ (H : Heap) (locs : List Loc), va_P D vwCl [(s0, eSnd v1 l1), (v1, eRow va 150), (va, eArr cI 150 ((playM S (onS set) wd L d i).2)), (l1, eRow la 150), (la, eArr cI 150 ((playM S (onS set) wd L d i).1)), (a, eCan b1 b2 sp he air sn), (b2, eRow c2 (3 * nw)), (c2, eArr cI 24 wd), (w0, eWay wb wl), (wb, eRow bb (lenW L)), (bb, eArr cI 9 bt), (wl, eRow bl (lenW L)), (bl, eArr cI 9 lw)] H → va_D A [(s0, eSnd v1 l1), (v1, eRow va 150), (va, eArr cI 150 ((playM S (onS set) wd L d i).2)), (l1, eRow la 150), (la, eArr cI 150 ((playM S (onS set) wd L d i).1)), (a, eCan b1 b2 sp he air sn), (b2, eRow c2 (3 * nw)), (c2, eArr cI 24 wd), (w0, eWay wb wl), (wb, eRow bb (lenW L)), (bb, eArr cI 9 bt), (wl, eRow bl (lenW L)), (bl, eArr cI 9 lw)] → va_S A s.heap H locs → ∀ ls : Array Slot, lv_has ls 6 [(5, .int (nI i)), (0, .ref s0), (1, .ref a), (2, .int (nI set)), (3, .ref w0), (4, .int (nI d))] → W p l e (headSpec wsX3_play ({ frames := 3, cells := 0, slots := 0, locals := 72 })).room s m ([.ref s0, .ref a, .int (nI set), .ref w0, .int (nI d)] : List Value).toArray below meth c H locs 0 0 (MQ below (va_Qv (fun (_ : Unit) => True) (ctB D cI cC (fun (_ : Unit) => [(s0, eSnd v1 l1), (v1, eRow va 150), (va, eArr cI 150 ((playM S (onS set) wd L d nw).2)), (l1, eRow la 150), (la, eArr cI 150 ((playM S (onS set) wd L d nw).1)), (a, eCan b1 b2 sp he air sn), (b2, eRow c2 (3 * nw)), (c2, eArr cI 24 wd), (w0, eWay wb wl), (wb, eRow bb (lenW L)), (bb, eArr cI 9 bt), (wl, eRow bl (lenW L)), (bl, eArr cI 9 lw)]) A) A) ([.ref s0, .ref a, .int (nI set), .ref w0, .int (nI d)] : List Value).toArray s 0 0 A) (F0 m 3 ls []) := by
    intro nn3
    induction nn3 with
    | zero =>
      intro i hm1
      exact absurd hm1 (Nat.not_lt_zero _)
    | succ nn3 ih3 =>
      intro i hm1 hi2 H locs hP hD hS ls hl
      refine lv_iload hx hb dX3_play_3 (lv_at hl 0 rfl) ?_
      refine lv_aload_n hx hb dX3_play_5 rfl (lv_at hl 2 rfl) ?_
      refine k_V (q := (RX0, TX0, 6)) (ci := 0) (As := []) (wr := [(s0, eSnd v1 l1), (v1, eRow va 150), (va, eArr cI 150 ((playM S (onS set) wd L d i).2)), (l1, eRow la 150), (la, eArr cI 150 ((playM S (onS set) wd L d i).1)), (w0, eWay wb wl), (wb, eRow bb (lenW L)), (bb, eArr cI 9 bt), (wl, eRow bl (lenW L)), (bl, eArr cI 9 lw)]) ⟨hx, hb, hml, hown, hts⟩ (c_X0_wordCount l D cI cC a b1 b2 sp he air sn c2 wd nw (by omega)) (cwV 0 hts gX3_play_X0_wordCount rfl rfl rfl (by decide +kernel) ⟨Nat.le_of_ble_eq_true rfl, Nat.le_of_ble_eq_true rfl⟩) rfl hl.1 rfl (Nat.le_of_ble_eq_true rfl) dX3_play_6 ⟨Nat.zero_le _, Nat.zero_le _⟩ hN hK hP hD hS hA rfl (q0 := 5) rfl [5, 6, 7] [0, 1, 2, 3, 4, 8, 9, 10, 11, 12] rfl rfl ⟨rfl, rfl, by decide⟩ (fun r3 u H locs w4 hP hD hS => ?_)
      obtain rfl : r3 = (nI nw) := w4
      refine x_icmp_ge (tgt := 57) hx hb dX3_play_9 (by decide) (by omega) (by omega) (fun h5 => ?_) (fun h5 => ?_)
      · have ei : nw = i := by omega
        subst ei
        exact x_vret hx hb hr hlocks dX3_play_57 (post := fun (_ : Unit) => True) (w1 := fun (_ : Unit) => [(s0, eSnd v1 l1), (v1, eRow va 150), (va, eArr cI 150 ((playM S (onS set) wd L d nw).2)), (l1, eRow la 150), (la, eArr cI 150 ((playM S (onS set) wd L d nw).1)), (a, eCan b1 b2 sp he air sn), (b2, eRow c2 (3 * nw)), (c2, eArr cI 24 wd), (w0, eWay wb wl), (wb, eRow bb (lenW L)), (bb, eArr cI 9 bt), (wl, eRow bl (lenW L)), (bl, eArr cI 9 lw)]) () trivial hK (hP.sub [0, 1, 2, 3, 4, 10, 11, 12, 5, 6, 7, 8, 9] rfl) (hD.sub [0, 1, 2, 3, 4, 10, 11, 12, 5, 6, 7, 8, 9] rfl rfl) hS
      · obtain ⟨ho6a, ho6b, ho6c, ho6d, ho6e⟩ := hokd i (by omega)
        refine lv_iload_n hx hb dX3_play_12 rfl (lv_at hl 3 rfl) ?_
        refine lv_iload hx hb dX3_play_13 (lv_at hl 0 rfl) ?_
        refine x_ishr hx hb dX3_play_15 (by omega) (by omega) ?_
        refine lv_iconst (v := (nI 1)) hx hb dX3_play_16 (by decide) ?_
        refine x_iand1 hx hb dX3_play_17 ?_
        refine lv_iconst (v := (nI 1)) hx hb dX3_play_18 (by decide) ?_
        refine x_icmp_ne (tgt := 51) hx hb dX3_play_19 (by decide) (by omega) (by omega) (fun h7 => ?_) (fun h7 => ?_)
        · refine lv_iinc (v := (nI (i + 1))) (lv' := [(5, .int (nI (i + 1))), (0, .ref s0), (1, .ref a), (2, .int (nI set)), (3, .ref w0), (4, .int (nI d))]) hx hb dX3_play_51 hl (k := 0) rfl (nI_inc _ 1) (by decide) rfl (fun ls hl => ?_)
          refine lv_goto (tgt := 3) hx hb dX3_play_54 (by decide) ?_
          have hP : va_P D vwCl [(s0, eSnd v1 l1), (v1, eRow va 150), (va, eArr cI 150 ((playM S (onS set) wd L d (i + 1)).2)), (l1, eRow la 150), (la, eArr cI 150 ((playM S (onS set) wd L d (i + 1)).1)), (w0, eWay wb wl), (wb, eRow bb (lenW L)), (bb, eArr cI 9 bt), (wl, eRow bl (lenW L)), (bl, eArr cI 9 lw), (a, eCan b1 b2 sp he air sn), (b2, eRow c2 (3 * nw)), (c2, eArr cI 24 wd)] H := by rw [playM_f (onS_f h7)]; exact hP
          have hD : va_D A [(s0, eSnd v1 l1), (v1, eRow va 150), (va, eArr cI 150 ((playM S (onS set) wd L d (i + 1)).2)), (l1, eRow la 150), (la, eArr cI 150 ((playM S (onS set) wd L d (i + 1)).1)), (w0, eWay wb wl), (wb, eRow bb (lenW L)), (bb, eArr cI 9 bt), (wl, eRow bl (lenW L)), (bl, eArr cI 9 lw), (a, eCan b1 b2 sp he air sn), (b2, eRow c2 (3 * nw)), (c2, eArr cI 24 wd)] := by rw [playM_f (onS_f h7)]; exact hD
          exact ih3 (i + 1) (by omega) (by omega) _ _ (hP.sub [0, 1, 2, 3, 4, 10, 11, 12, 5, 6, 7, 8, 9] rfl) (hD.sub [0, 1, 2, 3, 4, 10, 11, 12, 5, 6, 7, 8, 9] rfl rfl) hS _ (lv_sub hl [0, 1, 2, 3, 4, 5] rfl)
        · refine lv_aload_n hx hb dX3_play_22 rfl (lv_at hl 1 rfl) ?_
          refine lv_aload_n hx hb dX3_play_23 rfl (lv_at hl 2 rfl) ?_
          refine lv_iload hx hb dX3_play_24 (lv_at hl 0 rfl) ?_
          refine lv_iconst (v := (nI 0)) hx hb dX3_play_26 (by decide) ?_
          refine k_V (q := (RX0, TX0, 6)) (ci := 0) (As := [.int (nI i), .int (nI 0)]) (wr := [(s0, eSnd v1 l1), (v1, eRow va 150), (va, eArr cI 150 ((playM S (onS set) wd L d i).2)), (l1, eRow la 150), (la, eArr cI 150 ((playM S (onS set) wd L d i).1)), (w0, eWay wb wl), (wb, eRow bb (lenW L)), (bb, eArr cI 9 bt), (wl, eRow bl (lenW L)), (bl, eArr cI 9 lw)]) ⟨hx, hb, hml, hown, hts⟩ (c_X0_wordPart l D cI cC a b1 b2 sp he air sn c2 wd nw (by omega) i 0 (by omega) (by omega)) (cwV 2 hts gX3_play_X0_wordPart rfl rfl rfl (by decide +kernel) ⟨Nat.le_of_ble_eq_true rfl, Nat.le_of_ble_eq_true rfl⟩) rfl hl.1 rfl (Nat.le_of_ble_eq_true rfl) dX3_play_27 ⟨Nat.zero_le _, Nat.zero_le _⟩ hN hK hP hD hS hA rfl (q0 := 10) rfl [10, 11, 12] [0, 1, 2, 3, 4, 5, 6, 7, 8, 9] rfl rfl ⟨rfl, rfl, by decide⟩ (fun r8 u H locs w9 hP hD hS => ?_)
          obtain rfl : r8 = (nI (wd (3 * i + 0))) := w9
          refine lv_iload hx hb dX3_play_30 (lv_at hl 5 rfl) ?_
          refine x_iadd hx hb dX3_play_32 ?_
          refine lv_aload_n hx hb dX3_play_33 rfl (lv_at hl 2 rfl) ?_
          refine lv_iload hx hb dX3_play_34 (lv_at hl 0 rfl) ?_
          refine lv_iconst (v := (nI 1)) hx hb dX3_play_36 (by decide) ?_
          refine k_V (q := (RX0, TX0, 6)) (ci := 0) (As := [.int (nI i), .int (nI 1)]) (wr := [(s0, eSnd v1 l1), (v1, eRow va 150), (va, eArr cI 150 ((playM S (onS set) wd L d i).2)), (l1, eRow la 150), (la, eArr cI 150 ((playM S (onS set) wd L d i).1)), (w0, eWay wb wl), (wb, eRow bb (lenW L)), (bb, eArr cI 9 bt), (wl, eRow bl (lenW L)), (bl, eArr cI 9 lw)]) ⟨hx, hb, hml, hown, hts⟩ (c_X0_wordPart l D cI cC a b1 b2 sp he air sn c2 wd nw (by omega) i 1 (by omega) (by omega)) (cwV 2 hts gX3_play_X0_wordPart rfl rfl rfl (by decide +kernel) ⟨Nat.le_of_ble_eq_true rfl, Nat.le_of_ble_eq_true rfl⟩) rfl hl.1 rfl (Nat.le_of_ble_eq_true rfl) dX3_play_37 ⟨Nat.zero_le _, Nat.zero_le _⟩ hN hK hP hD hS hA rfl (q0 := 10) rfl [10, 11, 12] [0, 1, 2, 3, 4, 5, 6, 7, 8, 9] rfl rfl ⟨rfl, rfl, by decide⟩ (fun r10 u H locs w11 hP hD hS => ?_)
          obtain rfl : r10 = (nI (wd (3 * i + 1))) := w11
          refine lv_aload_n hx hb dX3_play_40 rfl (lv_at hl 2 rfl) ?_
          refine lv_iload hx hb dX3_play_41 (lv_at hl 0 rfl) ?_
          refine lv_iconst (v := (nI 2)) hx hb dX3_play_43 (by decide) ?_
          refine k_V (q := (RX0, TX0, 6)) (ci := 0) (As := [.int (nI i), .int (nI 2)]) (wr := [(s0, eSnd v1 l1), (v1, eRow va 150), (va, eArr cI 150 ((playM S (onS set) wd L d i).2)), (l1, eRow la 150), (la, eArr cI 150 ((playM S (onS set) wd L d i).1)), (w0, eWay wb wl), (wb, eRow bb (lenW L)), (bb, eArr cI 9 bt), (wl, eRow bl (lenW L)), (bl, eArr cI 9 lw)]) ⟨hx, hb, hml, hown, hts⟩ (c_X0_wordPart l D cI cC a b1 b2 sp he air sn c2 wd nw (by omega) i 2 (by omega) (by omega)) (cwV 2 hts gX3_play_X0_wordPart rfl rfl rfl (by decide +kernel) ⟨Nat.le_of_ble_eq_true rfl, Nat.le_of_ble_eq_true rfl⟩) rfl hl.1 rfl (Nat.le_of_ble_eq_true rfl) dX3_play_44 ⟨Nat.zero_le _, Nat.zero_le _⟩ hN hK hP hD hS hA rfl (q0 := 10) rfl [10, 11, 12] [0, 1, 2, 3, 4, 5, 6, 7, 8, 9] rfl rfl ⟨rfl, rfl, by decide⟩ (fun r12 u H locs w13 hP hD hS => ?_)
          obtain rfl : r12 = (nI (wd (3 * i + 2))) := w13
          refine lv_aload_n hx hb dX3_play_47 rfl (lv_at hl 4 rfl) ?_
          refine k_Vv (q := (RX3, TX3, 2)) (ci := 3) (As := [.int (nI (wd (3 * i + 0) + d)), .int (nI (wd (3 * i + 1))), .int (nI (wd (3 * i + 2))), .ref w0]) (wr := [(a, eCan b1 b2 sp he air sn), (b2, eRow c2 (3 * nw)), (c2, eArr cI 24 wd)]) ⟨hx, hb, hml, hown, hts⟩ (c_X3_carry l D cI cC s0 v1 va l1 la (playM S (onS set) wd L d i) w0 wb bb wl bl bt lw L (wd (3 * i + 0) + d) (wd (3 * i + 1)) (wd (3 * i + 2)) (by omega) (by omega) (by omega) (okS_play hS0 hokd i (by omega)) hrep (by omega)) (cwV 4 hts gX3_play_X3_carry rfl rfl rfl (by decide +kernel) ⟨Nat.le_of_ble_eq_true rfl, Nat.le_of_ble_eq_true rfl⟩) rfl hl.1 rfl (Nat.le_of_ble_eq_true rfl) dX3_play_48 ⟨Nat.zero_le _, Nat.zero_le _⟩ hN hK hP hD hS hA rfl (q0 := 0) rfl [0, 1, 2, 3, 4, 5, 6, 7, 8, 9] [10, 11, 12] rfl rfl ⟨rfl, rfl, by decide⟩ (fun u H locs w15 hP hD hS => ?_)
          refine lv_iinc (v := (nI (i + 1))) (lv' := [(5, .int (nI (i + 1))), (0, .ref s0), (1, .ref a), (2, .int (nI set)), (3, .ref w0), (4, .int (nI d))]) hx hb dX3_play_51 hl (k := 0) rfl (nI_inc _ 1) (by decide) rfl (fun ls hl => ?_)
          refine lv_goto (tgt := 3) hx hb dX3_play_54 (by decide) ?_
          have hP : va_P D vwCl [(a, eCan b1 b2 sp he air sn), (b2, eRow c2 (3 * nw)), (c2, eArr cI 24 wd), (s0, eSnd v1 l1), (v1, eRow va 150), (va, eArr cI 150 ((playM S (onS set) wd L d (i + 1)).2)), (l1, eRow la 150), (la, eArr cI 150 ((playM S (onS set) wd L d (i + 1)).1)), (w0, eWay wb wl), (wb, eRow bb (lenW L)), (bb, eArr cI 9 bt), (wl, eRow bl (lenW L)), (bl, eArr cI 9 lw)] H := by rw [playM_t (onS_t h7)]; exact hP
          have hD : va_D A [(a, eCan b1 b2 sp he air sn), (b2, eRow c2 (3 * nw)), (c2, eArr cI 24 wd), (s0, eSnd v1 l1), (v1, eRow va 150), (va, eArr cI 150 ((playM S (onS set) wd L d (i + 1)).2)), (l1, eRow la 150), (la, eArr cI 150 ((playM S (onS set) wd L d (i + 1)).1)), (w0, eWay wb wl), (wb, eRow bb (lenW L)), (bb, eArr cI 9 bt), (wl, eRow bl (lenW L)), (bl, eArr cI 9 lw)] := by rw [playM_t (onS_t h7)]; exact hD
          exact ih3 (i + 1) (by omega) (by omega) _ _ (hP.sub [3, 4, 5, 6, 7, 0, 1, 2, 8, 9, 10, 11, 12] rfl) (hD.sub [3, 4, 5, 6, 7, 0, 1, 2, 8, 9, 10, 11, 12] rfl rfl) hS _ (lv_sub hl [0, 1, 2, 3, 4, 5] rfl)
  have hP : va_P D vwCl [(s0, eSnd v1 l1), (v1, eRow va 150), (va, eArr cI 150 ((playM S (onS set) wd L d 0).2)), (l1, eRow la 150), (la, eArr cI 150 ((playM S (onS set) wd L d 0).1)), (a, eCan b1 b2 sp he air sn), (b2, eRow c2 (3 * nw)), (c2, eArr cI 24 wd), (w0, eWay wb wl), (wb, eRow bb (lenW L)), (bb, eArr cI 9 bt), (wl, eRow bl (lenW L)), (bl, eArr cI 9 lw)] H := hP
  have hD : va_D A [(s0, eSnd v1 l1), (v1, eRow va 150), (va, eArr cI 150 ((playM S (onS set) wd L d 0).2)), (l1, eRow la 150), (la, eArr cI 150 ((playM S (onS set) wd L d 0).1)), (a, eCan b1 b2 sp he air sn), (b2, eRow c2 (3 * nw)), (c2, eArr cI 24 wd), (w0, eWay wb wl), (wb, eRow bb (lenW L)), (bb, eArr cI 9 bt), (wl, eRow bl (lenW L)), (bl, eArr cI 9 lw)] := hD
  exact loop3 _ 0 (Nat.lt_succ_self _) (by omega) _ _ (hP.sub [0, 1, 2, 3, 4, 5, 6, 7, 8, 9, 10, 11, 12] rfl) (hD.sub [0, 1, 2, 3, 4, 5, 6, 7, 8, 9, 10, 11, 12] rfl rfl) hS _ (lv_sub hl [0, 1, 2, 3, 4, 5] rfl)

/-- a WORD comes BACK and is heard then -/
def backM (S : Snd) (wd : Nat → Nat) (w : Nat) (L : List (Nat × Nat)) : Bool := (L.drop 1).any (fun y => hitM S wd w 0 y.1 y.2)
theorem backM_t {S : Snd} {wd : Nat → Nat} {w : Nat} {L : List (Nat × Nat)} {bt lw : Nat → Nat} (h : repW bt lw L) {j : Nat} (h1 : 1 ≤ j) (h2 : j < lenW L) (h3 : hitM S wd w 0 (bt j) (lw j) = true) : backM S wd w L = true := by
  obtain ⟨e1, e2, -⟩ := h j h2
  rw [e1, e2] at h3
  refine List.any_eq_true.mpr ⟨L.getD j (0, 0), ?_, h3⟩
  have h4 : j < L.length := h2
  rw [List.mem_drop_iff_getElem]
  have e : 1 + (j - 1) = j := by omega
  refine ⟨j - 1, by omega, ?_⟩
  simp [e, List.getD_eq_getElem?_getD, h4]
theorem backM_f {S : Snd} {wd : Nat → Nat} {w : Nat} {L : List (Nat × Nat)} {bt lw : Nat → Nat} (h : repW bt lw L) (h3 : ∀ j, 1 ≤ j → j < lenW L → hitM S wd w 0 (bt j) (lw j) = false) : backM S wd w L = false := by
  refine List.any_eq_false.mpr ?_
  intro y hy
  rw [List.mem_drop_iff_getElem] at hy
  obtain ⟨k, hk, rfl⟩ := hy
  have hk2 : 1 + k < L.length := by omega
  obtain ⟨e1, e2, -⟩ := h (1 + k) hk2
  have h4 := h3 (1 + k) (by omega) hk2
  rw [e1, e2] at h4
  have e : L.getD (1 + k) (0, 0) = L[1 + k] := by simp [List.getD_eq_getElem?_getD, hk2]
  rw [e] at h4
  simp [h4]
section OR
variable {p : Program} {l : Launch} {e : Env} {R : Room} {s : State} {m : MethodId} {args : Array Value} {below : List Frame} {meth : Method} {c : Code} {H H0 : Heap} {locs : List Loc} {cells slots : Nat} {Q : State → Prop} {cc : ByteArray} {pc : Nat} {ls : Array Slot} {rest : List Value}
theorem x_ior2 {a k : Nat} (hx : p.tables.exec = Jvm.exec) (hb : c.code = cc) (hdg : decode cc pc = .ok (.ior, 1)) (h : a < 2 ^ k) (hk : k < 31) (kk : W p l e R s m args below meth c H locs cells slots Q (F0 m (pc + 1) ls (.int (nI (a + 2 ^ k)) :: rest))) : W p l e R s m args below meth c H locs cells slots Q (F0 m pc ls (.int (nI (2 ^ k)) :: .int (nI a) :: rest)) :=
  lv_ior hx hb hdg (by
    have e : nI a ||| nI (2 ^ k) = nI (a + 2 ^ k) := by
      rw [← Nat.or_two_pow_eq_add_of_lt h]
      exact Int32.toBitVec_inj.1 (show BitVec.ofNat 32 a ||| BitVec.ofNat 32 (2 ^ k) = BitVec.ofNat 32 (a ||| 2 ^ k) from BitVec.ofNat_or.symm)
    rw [e]; exact kk)
end OR

set_option maxRecDepth 100000 in
set_option maxHeartbeats 4000000 in
theorem c_X3_comesHeard (l : Launch) (D : va_G) (cI cC : ClassId) (s0 : Nat) (v1 : Nat) (va : Nat) (l1 : Nat) (la : Nat) (S : Snd) (a : Nat) (b1 : Nat) (b2 : Nat) (sp : Nat) (he : Nat) (air : Nat) (sn : Nat) (c2 : Nat) (wd : Nat → Nat) (nw : Nat) (w0 : Nat) (wb : Nat) (bb : Nat) (wl : Nat) (bl : Nat) (bt : Nat → Nat) (lw : Nat → Nat) (L : List (Nat × Nat)) (w : Nat) (d : Nat) (j : Nat) (hd0 : d ≤ 100) (hw9 : w < nw) (hnw : nw ≤ 8) (hj9 : j < lenW L) (hS0 : okS S) (hrep : repW bt lw L) (hL9 : lenW L ≤ 9) (hokd : okD wd nw) : mtI l D cI cC yX3_comesHeard wsX3_comesHeard ({ frames := 2, cells := 0, slots := 0, locals := 43 }) [.ref s0, .ref a, .int (nI w), .int (nI d), .ref w0, .int (nI j)] [(s0, eSnd v1 l1), (v1, eRow va 150), (va, eArr cI 150 S.2), (l1, eRow la 150), (la, eArr cI 150 S.1), (a, eCan b1 b2 sp he air sn), (b2, eRow c2 (3 * nw)), (c2, eArr cI 24 wd), (w0, eWay wb wl), (wb, eRow bb (lenW L)), (bb, eArr cI 9 bt), (wl, eRow bl (lenW L)), (bl, eArr cI 9 lw)] (fun (r : Int32) (_ : Unit) => (r = (nI 1) ∧ hitM S wd w d (bt j) (lw j) = true) ∨ (r = (nI 0) ∧ hitM S wd w d (bt j) (lw j) = false)) (fun (_ : Unit) => [(s0, eSnd v1 l1), (v1, eRow va 150), (va, eArr cI 150 S.2), (l1, eRow la 150), (la, eArr cI 150 S.1), (a, eCan b1 b2 sp he air sn), (b2, eRow c2 (3 * nw)), (c2, eArr cI 24 wd), (w0, eWay wb wl), (wb, eRow bb (lenW L)), (bb, eArr cI 9 bt), (wl, eRow bl (lenW L)), (bl, eArr cI 9 lw)]) := by
  refine mtI_of (cc := cX3_comesHeard) (maxL := 8) (ret := (some .boolean)) (by decide) rfl rfl ?_
  intro p e s m below meth c A hx hb hml hr hts hown hlocks hN hA hK hP hD hS ls hl
  have hown : s.vm.findClass RX3 = some m.cls := hown
  have hl : lv_has ls 8 [(0, .ref s0), (1, .ref a), (2, .int (nI w)), (3, .int (nI d)), (4, .ref w0), (5, .int (nI j))] := hl
  obtain ⟨H, hHe⟩ : ∃ H, H = s.heap := ⟨_, rfl⟩
  rw [← hHe] at hP ⊢
  have hS : va_S A s.heap H [] := by rw [hHe]; exact va_S.rf
  have fl14 := hts (.fieldLink RX3 14 "EchoPaysRent$Sound" "values" "LEchoPaysRent$Row;") (by decide +kernel)
  have inX3 : ∀ w ∈ wsX30, w ∈ wsX3_comesHeard := by decide +kernel
  obtain ⟨ho1a, ho1b, ho1c, ho1d, ho1e⟩ := hokd w (by omega)
  obtain ⟨-, -, hj2a, hj2b⟩ := hrep j (by omega)
  refine lv_aload_n hx hb dX3_comesHeard_0 rfl (lv_at hl 1 rfl) ?_
  refine lv_iload_n hx hb dX3_comesHeard_1 rfl (lv_at hl 2 rfl) ?_
  refine lv_iconst (v := (nI 0)) hx hb dX3_comesHeard_2 (by decide) ?_
  refine k_V (q := (RX0, TX0, 6)) (ci := 0) (As := [.int (nI w), .int (nI 0)]) (wr := [(s0, eSnd v1 l1), (v1, eRow va 150), (va, eArr cI 150 S.2), (l1, eRow la 150), (la, eArr cI 150 S.1), (w0, eWay wb wl), (wb, eRow bb (lenW L)), (bb, eArr cI 9 bt), (wl, eRow bl (lenW L)), (bl, eArr cI 9 lw)]) ⟨hx, hb, hml, hown, hts⟩ (c_X0_wordPart l D cI cC a b1 b2 sp he air sn c2 wd nw (by omega) w 0 (by omega) (by omega)) (cwV 2 hts gX3_comesHeard_X0_wordPart rfl rfl rfl (by decide +kernel) ⟨Nat.le_of_ble_eq_true rfl, Nat.le_of_ble_eq_true rfl⟩) rfl hl.1 rfl (Nat.le_of_ble_eq_true rfl) dX3_comesHeard_3 ⟨Nat.zero_le _, Nat.zero_le _⟩ hN hK hP hD hS hA rfl (q0 := 5) rfl [5, 6, 7] [0, 1, 2, 3, 4, 8, 9, 10, 11, 12] rfl rfl ⟨rfl, rfl, by decide⟩ (fun r3 u H locs w4 hP hD hS => ?_)
  obtain rfl : r3 = (nI (wd (3 * w + 0))) := w4
  refine lv_iload_n hx hb dX3_comesHeard_6 rfl (lv_at hl 3 rfl) ?_
  refine x_iadd hx hb dX3_comesHeard_7 ?_
  refine lv_aload hx hb dX3_comesHeard_8 (lv_at hl 4 rfl) ?_
  refine lv_iload hx hb dX3_comesHeard_10 (lv_at hl 5 rfl) ?_
  refine k_V (q := (RX5, TX5, 2)) (ci := 5) (As := [.int (nI j)]) (wr := [(s0, eSnd v1 l1), (v1, eRow va 150), (va, eArr cI 150 S.2), (l1, eRow la 150), (la, eArr cI 150 S.1), (wl, eRow bl (lenW L)), (bl, eArr cI 9 lw), (a, eCan b1 b2 sp he air sn), (b2, eRow c2 (3 * nw)), (c2, eArr cI 24 wd)]) ⟨hx, hb, hml, hown, hts⟩ (c_X5_later l D cI cC w0 wb bb wl bt (lenW L) j (by omega) (by omega)) (cwV 1 hts gX3_comesHeard_X5_later rfl rfl rfl (by decide +kernel) ⟨Nat.le_of_ble_eq_true rfl, Nat.le_of_ble_eq_true rfl⟩) rfl hl.1 rfl (Nat.le_of_ble_eq_true rfl) dX3_comesHeard_12 ⟨Nat.zero_le _, Nat.zero_le _⟩ hN hK hP hD hS hA rfl (q0 := 5) rfl [5, 6, 7] [0, 1, 2, 3, 4, 8, 9, 10, 11, 12] rfl rfl ⟨rfl, rfl, by decide⟩ (fun r5 u H locs w6 hP hD hS => ?_)
  obtain rfl : r5 = (nI (bt j)) := w6
  refine x_iadd hx hb dX3_comesHeard_15 ?_
  refine lv_istore (lv' := [(6, .int (nI (wd (3 * w + 0) + d + bt j))), (0, .ref s0), (1, .ref a), (2, .int (nI w)), (3, .int (nI d)), (4, .ref w0), (5, .int (nI j))]) hx hb dX3_comesHeard_16 hl (by decide) rfl (fun ls hl => ?_)
  refine lv_aload_n hx hb dX3_comesHeard_18 rfl (lv_at hl 2 rfl) ?_
  refine lv_iload_n hx hb dX3_comesHeard_19 rfl (lv_at hl 3 rfl) ?_
  refine lv_iconst (v := (nI 2)) hx hb dX3_comesHeard_20 (by decide) ?_
  refine k_V (q := (RX0, TX0, 6)) (ci := 0) (As := [.int (nI w), .int (nI 2)]) (wr := [(s0, eSnd v1 l1), (v1, eRow va 150), (va, eArr cI 150 S.2), (l1, eRow la 150), (la, eArr cI 150 S.1), (wl, eRow bl (lenW L)), (bl, eArr cI 9 lw), (w0, eWay wb wl), (wb, eRow bb (lenW L)), (bb, eArr cI 9 bt)]) ⟨hx, hb, hml, hown, hts⟩ (c_X0_wordPart l D cI cC a b1 b2 sp he air sn c2 wd nw (by omega) w 2 (by omega) (by omega)) (cwV 2 hts gX3_comesHeard_X0_wordPart rfl rfl rfl (by decide +kernel) ⟨Nat.le_of_ble_eq_true rfl, Nat.le_of_ble_eq_true rfl⟩) rfl hl.1 rfl (Nat.le_of_ble_eq_true rfl) dX3_comesHeard_21 ⟨Nat.zero_le _, Nat.zero_le _⟩ hN hK hP hD hS hA rfl (q0 := 7) rfl [7, 8, 9] [0, 1, 2, 3, 4, 5, 6, 10, 11, 12] rfl rfl ⟨rfl, rfl, by decide⟩ (fun r7 u H locs w8 hP hD hS => ?_)
  obtain rfl : r7 = (nI (wd (3 * w + 2))) := w8
  refine lv_aload hx hb dX3_comesHeard_24 (lv_at hl 5 rfl) ?_
  refine lv_iload hx hb dX3_comesHeard_26 (lv_at hl 6 rfl) ?_
  refine k_V (q := (RX5, TX5, 2)) (ci := 5) (As := [.int (nI j)]) (wr := [(s0, eSnd v1 l1), (v1, eRow va 150), (va, eArr cI 150 S.2), (l1, eRow la 150), (la, eArr cI 150 S.1), (wb, eRow bb (lenW L)), (bb, eArr cI 9 bt), (a, eCan b1 b2 sp he air sn), (b2, eRow c2 (3 * nw)), (c2, eArr cI 24 wd)]) ⟨hx, hb, hml, hown, hts⟩ (c_X5_weaker l D cI cC w0 wb wl bl lw (lenW L) j (by omega) (by omega)) (cwV 1 hts gX3_comesHeard_X5_weaker rfl rfl rfl (by decide +kernel) ⟨Nat.le_of_ble_eq_true rfl, Nat.le_of_ble_eq_true rfl⟩) rfl hl.1 rfl (Nat.le_of_ble_eq_true rfl) dX3_comesHeard_28 ⟨Nat.zero_le _, Nat.zero_le _⟩ hN hK hP hD hS hA rfl (q0 := 7) rfl [7, 5, 6] [0, 1, 2, 3, 4, 8, 9, 10, 11, 12] rfl rfl ⟨rfl, rfl, by decide⟩ (fun r9 u H locs w10 hP hD hS => ?_)
  obtain rfl : r9 = (nI (lw j)) := w10
  refine x_icmp_le (tgt := 38) hx hb dX3_comesHeard_31 (by decide) (by omega) (by omega) (fun h11 => ?_) (fun h11 => ?_)
  · refine lv_iconst (v := (nI 0)) hx hb dX3_comesHeard_38 (by decide) ?_
    refine lv_istore (lv' := [(7, .int (nI 0)), (6, .int (nI (wd (3 * w + 0) + d + bt j))), (0, .ref s0), (1, .ref a), (2, .int (nI w)), (3, .int (nI d)), (4, .ref w0), (5, .int (nI j))]) hx hb dX3_comesHeard_39 hl (by decide) rfl (fun ls hl => ?_)
    refine lv_iload hx hb dX3_comesHeard_41 (lv_at hl 0 rfl) ?_
    refine x_if_eq (tgt := 68) hx hb dX3_comesHeard_43 (by decide) (by omega) (fun h12 => ?_) (fun h12 => False.elim (by omega))
    refine lv_iconst (v := (nI 0)) hx hb dX3_comesHeard_68 (by decide) ?_
    exact x_iret hx hb hr hlocks dX3_comesHeard_69 rfl (post := fun (r : Int32) (_ : Unit) => (r = (nI 1) ∧ hitM S wd w d (bt j) (lw j) = true) ∨ (r = (nI 0) ∧ hitM S wd w d (bt j) (lw j) = false)) (w1 := fun (_ : Unit) => [(s0, eSnd v1 l1), (v1, eRow va 150), (va, eArr cI 150 S.2), (l1, eRow la 150), (la, eArr cI 150 S.1), (a, eCan b1 b2 sp he air sn), (b2, eRow c2 (3 * nw)), (c2, eArr cI 24 wd), (w0, eWay wb wl), (wb, eRow bb (lenW L)), (bb, eArr cI 9 bt), (wl, eRow bl (lenW L)), (bl, eArr cI 9 lw)]) () (Or.inr ⟨rfl, by first | exact hitM_f1 (by omega) | exact hitM_f2 (by omega) | exact hitM_f3 (by omega)⟩) hK (hP.sub [0, 1, 2, 3, 4, 7, 8, 9, 10, 5, 6, 11, 12] rfl) (hD.sub [0, 1, 2, 3, 4, 7, 8, 9, 10, 5, 6, 11, 12] rfl rfl) hS
  · refine lv_iconst (v := (nI 1)) hx hb dX3_comesHeard_34 (by decide) ?_
    refine lv_goto (tgt := 39) hx hb dX3_comesHeard_35 (by decide) ?_
    refine lv_istore (lv' := [(7, .int (nI 1)), (6, .int (nI (wd (3 * w + 0) + d + bt j))), (0, .ref s0), (1, .ref a), (2, .int (nI w)), (3, .int (nI d)), (4, .ref w0), (5, .int (nI j))]) hx hb dX3_comesHeard_39 hl (by decide) rfl (fun ls hl => ?_)
    refine lv_iload hx hb dX3_comesHeard_41 (lv_at hl 0 rfl) ?_
    refine x_if_eq (tgt := 68) hx hb dX3_comesHeard_43 (by decide) (by omega) (fun h13 => False.elim (by omega)) (fun h13 => ?_)
    refine lv_aload_n hx hb dX3_comesHeard_46 rfl (lv_at hl 2 rfl) ?_
    refine va_get (D := D) (ci := 3) (v := .ref v1) (C := RX3) (T := TX3) (N := 2) hx hb hts inX3 hown hK hP 0 rfl rfl 0 (by decide) fl14 (fun _ h9 => h9) rfl dX3_comesHeard_47 ?_
    refine lv_iload hx hb dX3_comesHeard_50 (lv_at hl 1 rfl) ?_
    have hSb := hS0 (wd (3 * w + 0) + d + bt j)
    rcases Nat.lt_or_ge (wd (3 * w + 0) + d + bt j) 150 with hb2 | hb2
    · refine k_V (q := (RX1, TX1, 2)) (ci := 1) (As := [.int (nI (wd (3 * w + 0) + d + bt j))]) (wr := [(s0, eSnd v1 l1), (l1, eRow la 150), (la, eArr cI 150 S.1), (wb, eRow bb (lenW L)), (bb, eArr cI 9 bt), (a, eCan b1 b2 sp he air sn), (b2, eRow c2 (3 * nw)), (c2, eArr cI 24 wd), (w0, eWay wb wl), (wl, eRow bl (lenW L)), (bl, eArr cI 9 lw)]) ⟨hx, hb, hml, hown, hts⟩ (c_X1_at_lt l D cI cC v1 va 150 S.2 150 (wd (3 * w + 0) + d + bt j) (by omega) (by omega) (by omega)) (cwV 1 hts gX3_comesHeard_X1_at rfl rfl rfl (by decide +kernel) ⟨Nat.le_of_ble_eq_true rfl, Nat.le_of_ble_eq_true rfl⟩) rfl hl.1 rfl (Nat.le_of_ble_eq_true rfl) dX3_comesHeard_52 ⟨Nat.zero_le _, Nat.zero_le _⟩ hN hK hP hD hS hA rfl (q0 := 1) rfl [1, 2] [0, 3, 4, 5, 6, 7, 8, 9, 10, 11, 12] rfl rfl ⟨rfl, rfl, by decide⟩ (fun r14 u H locs w15 hP hD hS => ?_)
      obtain rfl : r14 = (nI (S.2 (wd (3 * w + 0) + d + bt j))) := w15
      refine lv_aload_n hx hb dX3_comesHeard_55 rfl (lv_at hl 3 rfl) ?_
      refine lv_iload_n hx hb dX3_comesHeard_56 rfl (lv_at hl 4 rfl) ?_
      refine lv_iconst (v := (nI 1)) hx hb dX3_comesHeard_57 (by decide) ?_
      refine k_V (q := (RX0, TX0, 6)) (ci := 0) (As := [.int (nI w), .int (nI 1)]) (wr := [(s0, eSnd v1 l1), (l1, eRow la 150), (la, eArr cI 150 S.1), (wb, eRow bb (lenW L)), (bb, eArr cI 9 bt), (w0, eWay wb wl), (wl, eRow bl (lenW L)), (bl, eArr cI 9 lw), (v1, eRow va 150), (va, eArr cI 150 S.2)]) ⟨hx, hb, hml, hown, hts⟩ (c_X0_wordPart l D cI cC a b1 b2 sp he air sn c2 wd nw (by omega) w 1 (by omega) (by omega)) (cwV 2 hts gX3_comesHeard_X0_wordPart rfl rfl rfl (by decide +kernel) ⟨Nat.le_of_ble_eq_true rfl, Nat.le_of_ble_eq_true rfl⟩) rfl hl.1 rfl (Nat.le_of_ble_eq_true rfl) dX3_comesHeard_58 ⟨Nat.zero_le _, Nat.zero_le _⟩ hN hK hP hD hS hA rfl (q0 := 5) rfl [5, 6, 7] [0, 1, 2, 3, 4, 8, 9, 10, 11, 12] rfl rfl ⟨rfl, rfl, by decide⟩ (fun r16 u H locs w17 hP hD hS => ?_)
      obtain rfl : r16 = (nI (wd (3 * w + 1))) := w17
      refine x_icmp_ne (tgt := 68) hx hb dX3_comesHeard_61 (by decide) (by omega) (by omega) (fun h18 => ?_) (fun h18 => ?_)
      · refine lv_iconst (v := (nI 0)) hx hb dX3_comesHeard_68 (by decide) ?_
        exact x_iret hx hb hr hlocks dX3_comesHeard_69 rfl (post := fun (r : Int32) (_ : Unit) => (r = (nI 1) ∧ hitM S wd w d (bt j) (lw j) = true) ∨ (r = (nI 0) ∧ hitM S wd w d (bt j) (lw j) = false)) (w1 := fun (_ : Unit) => [(s0, eSnd v1 l1), (v1, eRow va 150), (va, eArr cI 150 S.2), (l1, eRow la 150), (la, eArr cI 150 S.1), (a, eCan b1 b2 sp he air sn), (b2, eRow c2 (3 * nw)), (c2, eArr cI 24 wd), (w0, eWay wb wl), (wb, eRow bb (lenW L)), (bb, eArr cI 9 bt), (wl, eRow bl (lenW L)), (bl, eArr cI 9 lw)]) () (Or.inr ⟨rfl, by first | exact hitM_f1 (by omega) | exact hitM_f2 (by omega) | exact hitM_f3 (by omega)⟩) hK (hP.sub [0, 8, 9, 1, 2, 10, 11, 12, 5, 3, 4, 6, 7] rfl) (hD.sub [0, 8, 9, 1, 2, 10, 11, 12, 5, 3, 4, 6, 7] rfl rfl) hS
      · refine lv_iconst (v := (nI 1)) hx hb dX3_comesHeard_64 (by decide) ?_
        refine lv_goto (tgt := 69) hx hb dX3_comesHeard_65 (by decide) ?_
        exact x_iret hx hb hr hlocks dX3_comesHeard_69 rfl (post := fun (r : Int32) (_ : Unit) => (r = (nI 1) ∧ hitM S wd w d (bt j) (lw j) = true) ∨ (r = (nI 0) ∧ hitM S wd w d (bt j) (lw j) = false)) (w1 := fun (_ : Unit) => [(s0, eSnd v1 l1), (v1, eRow va 150), (va, eArr cI 150 S.2), (l1, eRow la 150), (la, eArr cI 150 S.1), (a, eCan b1 b2 sp he air sn), (b2, eRow c2 (3 * nw)), (c2, eArr cI 24 wd), (w0, eWay wb wl), (wb, eRow bb (lenW L)), (bb, eArr cI 9 bt), (wl, eRow bl (lenW L)), (bl, eArr cI 9 lw)]) () (Or.inl ⟨rfl, hitM_t (by omega) (by omega) (by omega)⟩) hK (hP.sub [0, 8, 9, 1, 2, 10, 11, 12, 5, 3, 4, 6, 7] rfl) (hD.sub [0, 8, 9, 1, 2, 10, 11, 12, 5, 3, 4, 6, 7] rfl rfl) hS
    · refine k_V (q := (RX1, TX1, 2)) (ci := 1) (As := [.int (nI (wd (3 * w + 0) + d + bt j))]) (wr := [(s0, eSnd v1 l1), (l1, eRow la 150), (la, eArr cI 150 S.1), (wb, eRow bb (lenW L)), (bb, eArr cI 9 bt), (a, eCan b1 b2 sp he air sn), (b2, eRow c2 (3 * nw)), (c2, eArr cI 24 wd), (w0, eWay wb wl), (wl, eRow bl (lenW L)), (bl, eArr cI 9 lw)]) ⟨hx, hb, hml, hown, hts⟩ (c_X1_at_ge l D cI cC v1 va 150 S.2 150 (wd (3 * w + 0) + d + bt j) (by omega) (by omega) (by omega) (by omega)) (cwV 1 hts gX3_comesHeard_X1_at rfl rfl rfl (by decide +kernel) ⟨Nat.le_of_ble_eq_true rfl, Nat.le_of_ble_eq_true rfl⟩) rfl hl.1 rfl (Nat.le_of_ble_eq_true rfl) dX3_comesHeard_52 ⟨Nat.zero_le _, Nat.zero_le _⟩ hN hK hP hD hS hA rfl (q0 := 1) rfl [1, 2] [0, 3, 4, 5, 6, 7, 8, 9, 10, 11, 12] rfl rfl ⟨rfl, rfl, by decide⟩ (fun r19 u H locs w20 hP hD hS => ?_)
      obtain rfl : r19 = (nI 0) := w20
      refine lv_aload_n hx hb dX3_comesHeard_55 rfl (lv_at hl 3 rfl) ?_
      refine lv_iload_n hx hb dX3_comesHeard_56 rfl (lv_at hl 4 rfl) ?_
      refine lv_iconst (v := (nI 1)) hx hb dX3_comesHeard_57 (by decide) ?_
      refine k_V (q := (RX0, TX0, 6)) (ci := 0) (As := [.int (nI w), .int (nI 1)]) (wr := [(s0, eSnd v1 l1), (l1, eRow la 150), (la, eArr cI 150 S.1), (wb, eRow bb (lenW L)), (bb, eArr cI 9 bt), (w0, eWay wb wl), (wl, eRow bl (lenW L)), (bl, eArr cI 9 lw), (v1, eRow va 150), (va, eArr cI 150 S.2)]) ⟨hx, hb, hml, hown, hts⟩ (c_X0_wordPart l D cI cC a b1 b2 sp he air sn c2 wd nw (by omega) w 1 (by omega) (by omega)) (cwV 2 hts gX3_comesHeard_X0_wordPart rfl rfl rfl (by decide +kernel) ⟨Nat.le_of_ble_eq_true rfl, Nat.le_of_ble_eq_true rfl⟩) rfl hl.1 rfl (Nat.le_of_ble_eq_true rfl) dX3_comesHeard_58 ⟨Nat.zero_le _, Nat.zero_le _⟩ hN hK hP hD hS hA rfl (q0 := 5) rfl [5, 6, 7] [0, 1, 2, 3, 4, 8, 9, 10, 11, 12] rfl rfl ⟨rfl, rfl, by decide⟩ (fun r21 u H locs w22 hP hD hS => ?_)
      obtain rfl : r21 = (nI (wd (3 * w + 1))) := w22
      refine x_icmp_ne (tgt := 68) hx hb dX3_comesHeard_61 (by decide) (by omega) (by omega) (fun h23 => ?_) (fun h23 => False.elim (by omega))
      refine lv_iconst (v := (nI 0)) hx hb dX3_comesHeard_68 (by decide) ?_
      exact x_iret hx hb hr hlocks dX3_comesHeard_69 rfl (post := fun (r : Int32) (_ : Unit) => (r = (nI 1) ∧ hitM S wd w d (bt j) (lw j) = true) ∨ (r = (nI 0) ∧ hitM S wd w d (bt j) (lw j) = false)) (w1 := fun (_ : Unit) => [(s0, eSnd v1 l1), (v1, eRow va 150), (va, eArr cI 150 S.2), (l1, eRow la 150), (la, eArr cI 150 S.1), (a, eCan b1 b2 sp he air sn), (b2, eRow c2 (3 * nw)), (c2, eArr cI 24 wd), (w0, eWay wb wl), (wb, eRow bb (lenW L)), (bb, eArr cI 9 bt), (wl, eRow bl (lenW L)), (bl, eArr cI 9 lw)]) () (Or.inr ⟨rfl, by first | exact hitM_f1 (by omega) | exact hitM_f2 (by omega) | exact hitM_f3 (by omega)⟩) hK (hP.sub [0, 8, 9, 1, 2, 10, 11, 12, 5, 3, 4, 6, 7] rfl) (hD.sub [0, 8, 9, 1, 2, 10, 11, 12, 5, 3, 4, 6, 7] rfl rfl) hS

set_option maxRecDepth 100000 in
set_option maxHeartbeats 4000000 in
theorem c_X3_clearOf (l : Launch) (D : va_G) (cI cC : ClassId) (s0 : Nat) (v1 : Nat) (va : Nat) (l1 : Nat) (la : Nat) (S : Snd) (a : Nat) (b1 : Nat) (b2 : Nat) (sp : Nat) (he : Nat) (air : Nat) (sn : Nat) (c2 : Nat) (wd : Nat → Nat) (nw : Nat) (w0 : Nat) (wb : Nat) (bb : Nat) (wl : Nat) (bl : Nat) (bt : Nat → Nat) (lw : Nat → Nat) (L : List (Nat × Nat)) (set : Nat) (d : Nat) (hd0 : d ≤ 100) (hset : set < 2147483648) (hnw : nw ≤ 8) (h0L : 0 < lenW L) (hS0 : okS S) (hrep : repW bt lw L) (hL9 : lenW L ≤ 9) (hokd : okD wd nw) : mtI l D cI cC yX3_clearOf wsX3_clearOf ({ frames := 3, cells := 0, slots := 0, locals := 70 }) [.ref s0, .ref a, .int (nI set), .ref w0, .int (nI d)] [(s0, eSnd v1 l1), (v1, eRow va 150), (va, eArr cI 150 S.2), (l1, eRow la 150), (la, eArr cI 150 S.1), (a, eCan b1 b2 sp he air sn), (b2, eRow c2 (3 * nw)), (c2, eArr cI 24 wd), (w0, eWay wb wl), (wb, eRow bb (lenW L)), (bb, eArr cI 9 bt), (wl, eRow bl (lenW L)), (bl, eArr cI 9 lw)] (fun (r : Int32) (_ : Unit) => r = (nI (bitsM (fun w => onS set w && hitM S wd w d (bt 0) (lw 0)) nw))) (fun (_ : Unit) => [(s0, eSnd v1 l1), (v1, eRow va 150), (va, eArr cI 150 S.2), (l1, eRow la 150), (la, eArr cI 150 S.1), (a, eCan b1 b2 sp he air sn), (b2, eRow c2 (3 * nw)), (c2, eArr cI 24 wd), (w0, eWay wb wl), (wb, eRow bb (lenW L)), (bb, eArr cI 9 bt), (wl, eRow bl (lenW L)), (bl, eArr cI 9 lw)]) := by
  refine mtI_of (cc := cX3_clearOf) (maxL := 7) (ret := (some .int)) (by decide) rfl rfl ?_
  intro p e s m below meth c A hx hb hml hr hts hown hlocks hN hA hK hP hD hS ls hl
  have hown : s.vm.findClass RX3 = some m.cls := hown
  have hl : lv_has ls 7 [(0, .ref s0), (1, .ref a), (2, .int (nI set)), (3, .ref w0), (4, .int (nI d))] := hl
  obtain ⟨H, hHe⟩ : ∃ H, H = s.heap := ⟨_, rfl⟩
  rw [← hHe] at hP ⊢
  have hS : va_S A s.heap H [] := by rw [hHe]; exact va_S.rf
  refine lv_iconst (v := (nI 0)) hx hb dX3_clearOf_0 (by decide) ?_
  refine lv_istore (lv' := [(5, .int (nI 0)), (0, .ref s0), (1, .ref a), (2, .int (nI set)), (3, .ref w0), (4, .int (nI d))]) hx hb dX3_clearOf_1 hl (by decide) rfl (fun ls hl => ?_)
  refine lv_iconst (v := (nI 0)) hx hb dX3_clearOf_3 (by decide) ?_
  refine lv_istore (lv' := [(6, .int (nI 0)), (5, .int (nI 0)), (0, .ref s0), (1, .ref a), (2, .int (nI set)), (3, .ref w0), (4, .int (nI d))]) hx hb dX3_clearOf_4 hl (by decide) rfl (fun ls hl => ?_)
  have loop6 : ∀ (nn6 : Nat) (i : Nat), nw - i < nn6 → (i ≤ nw) → ∀ (H : Heap) (locs : List Loc), va_P D vwCl [(s0, eSnd v1 l1), (v1, eRow va 150), (va, eArr cI 150 S.2), (l1, eRow la 150), (la, eArr cI 150 S.1), (a, eCan b1 b2 sp he air sn), (b2, eRow c2 (3 * nw)), (c2, eArr cI 24 wd), (w0, eWay wb wl), (wb, eRow bb (lenW L)), (bb, eArr cI 9 bt), (wl, eRow bl (lenW L)), (bl, eArr cI 9 lw)] H → va_D A [(s0, eSnd v1 l1), (v1, eRow va 150), (va, eArr cI 150 S.2), (l1, eRow la 150), (la, eArr cI 150 S.1), (a, eCan b1 b2 sp he air sn), (b2, eRow c2 (3 * nw)), (c2, eArr cI 24 wd), (w0, eWay wb wl), (wb, eRow bb (lenW L)), (bb, eArr cI 9 bt), (wl, eRow bl (lenW L)), (bl, eArr cI 9 lw)] → va_S A s.heap H locs → ∀ ls : Array Slot, lv_has ls 7 [(6, .int (nI i)), (5, .int (nI (bitsM (fun w => onS set w && hitM S wd w d (bt 0) (lw 0)) i))), (0, .ref s0), (1, .ref a), (2, .int (nI set)), (3, .ref w0), (4, .int (nI d))] → W p l e (headSpec wsX3_clearOf ({ frames := 3, cells := 0, slots := 0, locals := 70 })).room s m ([.ref s0, .ref a, .int (nI set), .ref w0, .int (nI d)] : List Value).toArray below meth c H locs 0 0 (MQ below (va_Qi (fun (r : Int32) (_ : Unit) => r = (nI (bitsM (fun w => onS set w && hitM S wd w d (bt 0) (lw 0)) nw))) (ctB D cI cC (fun (_ : Unit) => [(s0, eSnd v1 l1), (v1, eRow va 150), (va, eArr cI 150 S.2), (l1, eRow la 150), (la, eArr cI 150 S.1), (a, eCan b1 b2 sp he air sn), (b2, eRow c2 (3 * nw)), (c2, eArr cI 24 wd), (w0, eWay wb wl), (wb, eRow bb (lenW L)), (bb, eArr cI 9 bt), (wl, eRow bl (lenW L)), (bl, eArr cI 9 lw)]) A) A) ([.ref s0, .ref a, .int (nI set), .ref w0, .int (nI d)] : List Value).toArray s 0 0 A) (F0 m 6 ls []) := by
    intro nn6
    induction nn6 with
    | zero =>
      intro i hm1
      exact absurd hm1 (Nat.not_lt_zero _)
    | succ nn6 ih6 =>
      intro i hm1 hi2 H locs hP hD hS ls hl
      refine lv_iload hx hb dX3_clearOf_6 (lv_at hl 0 rfl) ?_
      refine lv_aload_n hx hb dX3_clearOf_8 rfl (lv_at hl 3 rfl) ?_
      refine k_V (q := (RX0, TX0, 6)) (ci := 0) (As := []) (wr := [(s0, eSnd v1 l1), (v1, eRow va 150), (va, eArr cI 150 S.2), (l1, eRow la 150), (la, eArr cI 150 S.1), (w0, eWay wb wl), (wb, eRow bb (lenW L)), (bb, eArr cI 9 bt), (wl, eRow bl (lenW L)), (bl, eArr cI 9 lw)]) ⟨hx, hb, hml, hown, hts⟩ (c_X0_wordCount l D cI cC a b1 b2 sp he air sn c2 wd nw (by omega)) (cwV 0 hts gX3_clearOf_X0_wordCount rfl rfl rfl (by decide +kernel) ⟨Nat.le_of_ble_eq_true rfl, Nat.le_of_ble_eq_true rfl⟩) rfl hl.1 rfl (Nat.le_of_ble_eq_true rfl) dX3_clearOf_9 ⟨Nat.zero_le _, Nat.zero_le _⟩ hN hK hP hD hS hA rfl (q0 := 5) rfl [5, 6, 7] [0, 1, 2, 3, 4, 8, 9, 10, 11, 12] rfl rfl ⟨rfl, rfl, by decide⟩ (fun r3 u H locs w4 hP hD hS => ?_)
      obtain rfl : r3 = (nI nw) := w4
      refine x_icmp_ge (tgt := 54) hx hb dX3_clearOf_12 (by decide) (by omega) (by omega) (fun h5 => ?_) (fun h5 => ?_)
      · have ei : nw = i := by omega
        subst ei
        refine lv_iload hx hb dX3_clearOf_54 (lv_at hl 1 rfl) ?_
        exact x_iret hx hb hr hlocks dX3_clearOf_56 rfl (post := fun (r : Int32) (_ : Unit) => r = (nI (bitsM (fun w => onS set w && hitM S wd w d (bt 0) (lw 0)) nw))) (w1 := fun (_ : Unit) => [(s0, eSnd v1 l1), (v1, eRow va 150), (va, eArr cI 150 S.2), (l1, eRow la 150), (la, eArr cI 150 S.1), (a, eCan b1 b2 sp he air sn), (b2, eRow c2 (3 * nw)), (c2, eArr cI 24 wd), (w0, eWay wb wl), (wb, eRow bb (lenW L)), (bb, eArr cI 9 bt), (wl, eRow bl (lenW L)), (bl, eArr cI 9 lw)]) () rfl hK (hP.sub [0, 1, 2, 3, 4, 10, 11, 12, 5, 6, 7, 8, 9] rfl) (hD.sub [0, 1, 2, 3, 4, 10, 11, 12, 5, 6, 7, 8, 9] rfl rfl) hS
      · refine lv_iload_n hx hb dX3_clearOf_15 rfl (lv_at hl 4 rfl) ?_
        refine lv_iload hx hb dX3_clearOf_16 (lv_at hl 0 rfl) ?_
        refine x_ishr hx hb dX3_clearOf_18 (by omega) (by omega) ?_
        refine lv_iconst (v := (nI 1)) hx hb dX3_clearOf_19 (by decide) ?_
        refine x_iand1 hx hb dX3_clearOf_20 ?_
        refine lv_iconst (v := (nI 1)) hx hb dX3_clearOf_21 (by decide) ?_
        refine x_icmp_ne (tgt := 48) hx hb dX3_clearOf_22 (by decide) (by omega) (by omega) (fun h6 => ?_) (fun h6 => ?_)
        · refine lv_iinc (v := (nI (i + 1))) (lv' := [(6, .int (nI (i + 1))), (5, .int (nI (bitsM (fun w => onS set w && hitM S wd w d (bt 0) (lw 0)) i))), (0, .ref s0), (1, .ref a), (2, .int (nI set)), (3, .ref w0), (4, .int (nI d))]) hx hb dX3_clearOf_48 hl (k := 0) rfl (nI_inc _ 1) (by decide) rfl (fun ls hl => ?_)
          refine lv_goto (tgt := 6) hx hb dX3_clearOf_51 (by decide) ?_
          have eb : bitsM (fun w => onS set w && hitM S wd w d (bt 0) (lw 0)) i = bitsM (fun w => onS set w && hitM S wd w d (bt 0) (lw 0)) (i + 1) := (bitsM_f (c := fun w => onS set w && hitM S wd w d (bt 0) (lw 0)) (by show (_ && _) = false; rw [onS_f h6]; rfl)).symm
          rw [show nI (bitsM (fun w => onS set w && hitM S wd w d (bt 0) (lw 0)) i) = nI (bitsM (fun w => onS set w && hitM S wd w d (bt 0) (lw 0)) (i + 1)) from congrArg nI eb] at hl
          exact ih6 (i + 1) (by omega) (by omega) _ _ (hP.sub [0, 1, 2, 3, 4, 10, 11, 12, 5, 6, 7, 8, 9] rfl) (hD.sub [0, 1, 2, 3, 4, 10, 11, 12, 5, 6, 7, 8, 9] rfl rfl) hS _ (lv_sub hl [0, 1, 2, 3, 4, 5, 6] rfl)
        · refine lv_aload_n hx hb dX3_clearOf_25 rfl (lv_at hl 2 rfl) ?_
          refine lv_aload_n hx hb dX3_clearOf_26 rfl (lv_at hl 3 rfl) ?_
          refine lv_iload hx hb dX3_clearOf_27 (lv_at hl 0 rfl) ?_
          refine lv_iload hx hb dX3_clearOf_29 (lv_at hl 6 rfl) ?_
          refine lv_aload_n hx hb dX3_clearOf_31 rfl (lv_at hl 5 rfl) ?_
          refine lv_iconst (v := (nI 0)) hx hb dX3_clearOf_32 (by decide) ?_
          refine k_V (q := (RX3, TX3, 2)) (ci := 3) (As := [.ref a, .int (nI i), .int (nI d), .ref w0, .int (nI 0)]) (wr := []) ⟨hx, hb, hml, hown, hts⟩ (c_X3_comesHeard l D cI cC s0 v1 va l1 la S a b1 b2 sp he air sn c2 wd nw w0 wb bb wl bl bt lw L i d 0 (by omega) (by omega) (by omega) (by omega) hS0 hrep (by omega) hokd) (cwV 5 hts gX3_clearOf_X3_comesHeard rfl rfl rfl (by decide +kernel) ⟨Nat.le_of_ble_eq_true rfl, Nat.le_of_ble_eq_true rfl⟩) rfl hl.1 rfl (Nat.le_of_ble_eq_true rfl) dX3_clearOf_33 ⟨Nat.zero_le _, Nat.zero_le _⟩ hN hK hP hD hS hA rfl (q0 := 0) rfl [0, 1, 2, 3, 4, 10, 11, 12, 5, 6, 7, 8, 9] [] rfl rfl ⟨rfl, rfl, by decide⟩ (fun r7 u H locs w8 hP hD hS => ?_)
          obtain ⟨rfl, h9⟩ | ⟨rfl, h10⟩ : (r7 = (nI 1) ∧ hitM S wd i d (bt 0) (lw 0) = true) ∨ (r7 = (nI 0) ∧ hitM S wd i d (bt 0) (lw 0) = false) := w8
          · refine x_if_eq (tgt := 48) hx hb dX3_clearOf_36 (by decide) (by omega) (fun h11 => False.elim (by omega)) (fun h11 => ?_)
            refine lv_iload hx hb dX3_clearOf_39 (lv_at hl 1 rfl) ?_
            refine lv_iconst (v := (nI 1)) hx hb dX3_clearOf_41 (by decide) ?_
            refine lv_iload hx hb dX3_clearOf_42 (lv_at hl 0 rfl) ?_
            refine x_shl1 hx hb dX3_clearOf_44 (by omega) ?_
            refine x_ior2 hx hb dX3_clearOf_45 (bitsM_lt _ i) (by omega) ?_
            refine lv_istore (lv' := [(5, .int (nI (bitsM (fun w => onS set w && hitM S wd w d (bt 0) (lw 0)) i + 2 ^ i))), (6, .int (nI i)), (0, .ref s0), (1, .ref a), (2, .int (nI set)), (3, .ref w0), (4, .int (nI d))]) hx hb dX3_clearOf_46 hl (by decide) rfl (fun ls hl => ?_)
            refine lv_iinc (v := (nI (i + 1))) (lv' := [(6, .int (nI (i + 1))), (5, .int (nI (bitsM (fun w => onS set w && hitM S wd w d (bt 0) (lw 0)) i + 2 ^ i))), (0, .ref s0), (1, .ref a), (2, .int (nI set)), (3, .ref w0), (4, .int (nI d))]) hx hb dX3_clearOf_48 hl (k := 1) rfl (nI_inc _ 1) (by decide) rfl (fun ls hl => ?_)
            refine lv_goto (tgt := 6) hx hb dX3_clearOf_51 (by decide) ?_
            have eb : bitsM (fun w => onS set w && hitM S wd w d (bt 0) (lw 0)) i + 2 ^ i = bitsM (fun w => onS set w && hitM S wd w d (bt 0) (lw 0)) (i + 1) := (bitsM_t (c := fun w => onS set w && hitM S wd w d (bt 0) (lw 0)) (by show (_ && _) = true; rw [onS_t h6, h9]; rfl)).symm
            rw [show nI (bitsM (fun w => onS set w && hitM S wd w d (bt 0) (lw 0)) i + 2 ^ i) = nI (bitsM (fun w => onS set w && hitM S wd w d (bt 0) (lw 0)) (i + 1)) from congrArg nI eb] at hl
            exact ih6 (i + 1) (by omega) (by omega) _ _ (hP.sub [0, 1, 2, 3, 4, 5, 6, 7, 8, 9, 10, 11, 12] rfl) (hD.sub [0, 1, 2, 3, 4, 5, 6, 7, 8, 9, 10, 11, 12] rfl rfl) hS _ (lv_sub hl [0, 1, 2, 3, 4, 5, 6] rfl)
          · refine x_if_eq (tgt := 48) hx hb dX3_clearOf_36 (by decide) (by omega) (fun h12 => ?_) (fun h12 => False.elim (by omega))
            refine lv_iinc (v := (nI (i + 1))) (lv' := [(6, .int (nI (i + 1))), (5, .int (nI (bitsM (fun w => onS set w && hitM S wd w d (bt 0) (lw 0)) i))), (0, .ref s0), (1, .ref a), (2, .int (nI set)), (3, .ref w0), (4, .int (nI d))]) hx hb dX3_clearOf_48 hl (k := 0) rfl (nI_inc _ 1) (by decide) rfl (fun ls hl => ?_)
            refine lv_goto (tgt := 6) hx hb dX3_clearOf_51 (by decide) ?_
            have eb : bitsM (fun w => onS set w && hitM S wd w d (bt 0) (lw 0)) i = bitsM (fun w => onS set w && hitM S wd w d (bt 0) (lw 0)) (i + 1) := (bitsM_f (c := fun w => onS set w && hitM S wd w d (bt 0) (lw 0)) (by show (_ && _) = false; rw [h10, Bool.and_false])).symm
            rw [show nI (bitsM (fun w => onS set w && hitM S wd w d (bt 0) (lw 0)) i) = nI (bitsM (fun w => onS set w && hitM S wd w d (bt 0) (lw 0)) (i + 1)) from congrArg nI eb] at hl
            exact ih6 (i + 1) (by omega) (by omega) _ _ (hP.sub [0, 1, 2, 3, 4, 5, 6, 7, 8, 9, 10, 11, 12] rfl) (hD.sub [0, 1, 2, 3, 4, 5, 6, 7, 8, 9, 10, 11, 12] rfl rfl) hS _ (lv_sub hl [0, 1, 2, 3, 4, 5, 6] rfl)
  exact loop6 _ 0 (Nat.lt_succ_self _) (by omega) _ _ (hP.sub [0, 1, 2, 3, 4, 5, 6, 7, 8, 9, 10, 11, 12] rfl) (hD.sub [0, 1, 2, 3, 4, 5, 6, 7, 8, 9, 10, 11, 12] rfl rfl) hS _ (lv_sub hl [0, 1, 2, 3, 4, 5, 6] rfl)

set_option maxRecDepth 100000 in
set_option maxHeartbeats 4000000 in
theorem c_X3_comesBackHeard (l : Launch) (D : va_G) (cI cC : ClassId) (s0 : Nat) (v1 : Nat) (va : Nat) (l1 : Nat) (la : Nat) (S : Snd) (a : Nat) (b1 : Nat) (b2 : Nat) (sp : Nat) (he : Nat) (air : Nat) (sn : Nat) (c2 : Nat) (wd : Nat → Nat) (nw : Nat) (w0 : Nat) (wb : Nat) (bb : Nat) (wl : Nat) (bl : Nat) (bt : Nat → Nat) (lw : Nat → Nat) (L : List (Nat × Nat)) (hnw : nw ≤ 8) (h0L : 0 < lenW L) (hS0 : okS S) (hrep : repW bt lw L) (hL9 : lenW L ≤ 9) (hokd : okD wd nw) (w : Nat) (hw9 : w < nw) : mtI l D cI cC yX3_comesBackHeard wsX3_comesBackHeard ({ frames := 3, cells := 0, slots := 0, locals := 70 }) [.ref s0, .ref a, .int (nI w), .ref w0] [(s0, eSnd v1 l1), (v1, eRow va 150), (va, eArr cI 150 S.2), (l1, eRow la 150), (la, eArr cI 150 S.1), (a, eCan b1 b2 sp he air sn), (b2, eRow c2 (3 * nw)), (c2, eArr cI 24 wd), (w0, eWay wb wl), (wb, eRow bb (lenW L)), (bb, eArr cI 9 bt), (wl, eRow bl (lenW L)), (bl, eArr cI 9 lw)] (fun (r : Int32) (_ : Unit) => (r = (nI 1) ∧ backM S wd w L = true) ∨ (r = (nI 0) ∧ backM S wd w L = false)) (fun (_ : Unit) => [(s0, eSnd v1 l1), (v1, eRow va 150), (va, eArr cI 150 S.2), (l1, eRow la 150), (la, eArr cI 150 S.1), (a, eCan b1 b2 sp he air sn), (b2, eRow c2 (3 * nw)), (c2, eArr cI 24 wd), (w0, eWay wb wl), (wb, eRow bb (lenW L)), (bb, eArr cI 9 bt), (wl, eRow bl (lenW L)), (bl, eArr cI 9 lw)]) := by
  refine mtI_of (cc := cX3_comesBackHeard) (maxL := 5) (ret := (some .boolean)) (by decide) rfl rfl ?_
  intro p e s m below meth c A hx hb hml hr hts hown hlocks hN hA hK hP hD hS ls hl
  have hown : s.vm.findClass RX3 = some m.cls := hown
  have hl : lv_has ls 5 [(0, .ref s0), (1, .ref a), (2, .int (nI w)), (3, .ref w0)] := hl
  obtain ⟨H, hHe⟩ : ∃ H, H = s.heap := ⟨_, rfl⟩
  rw [← hHe] at hP ⊢
  have hS : va_S A s.heap H [] := by rw [hHe]; exact va_S.rf
  refine lv_iconst (v := (nI 1)) hx hb dX3_comesBackHeard_0 (by decide) ?_
  refine lv_istore (lv' := [(4, .int (nI 1)), (0, .ref s0), (1, .ref a), (2, .int (nI w)), (3, .ref w0)]) hx hb dX3_comesBackHeard_1 hl (by decide) rfl (fun ls hl => ?_)
  have loop3 : ∀ (nn3 : Nat) (i : Nat), lenW L - i < nn3 → (1 ≤ i ∧ i ≤ lenW L) → (∀ j, 1 ≤ j → j < i → hitM S wd w 0 (bt j) (lw j) = false) → ∀ (H : Heap) (locs : List Loc), va_P D vwCl [(s0, eSnd v1 l1), (v1, eRow va 150), (va, eArr cI 150 S.2), (l1, eRow la 150), (la, eArr cI 150 S.1), (a, eCan b1 b2 sp he air sn), (b2, eRow c2 (3 * nw)), (c2, eArr cI 24 wd), (w0, eWay wb wl), (wb, eRow bb (lenW L)), (bb, eArr cI 9 bt), (wl, eRow bl (lenW L)), (bl, eArr cI 9 lw)] H → va_D A [(s0, eSnd v1 l1), (v1, eRow va 150), (va, eArr cI 150 S.2), (l1, eRow la 150), (la, eArr cI 150 S.1), (a, eCan b1 b2 sp he air sn), (b2, eRow c2 (3 * nw)), (c2, eArr cI 24 wd), (w0, eWay wb wl), (wb, eRow bb (lenW L)), (bb, eArr cI 9 bt), (wl, eRow bl (lenW L)), (bl, eArr cI 9 lw)] → va_S A s.heap H locs → ∀ ls : Array Slot, lv_has ls 5 [(4, .int (nI i)), (0, .ref s0), (1, .ref a), (2, .int (nI w)), (3, .ref w0)] → W p l e (headSpec wsX3_comesBackHeard ({ frames := 3, cells := 0, slots := 0, locals := 70 })).room s m ([.ref s0, .ref a, .int (nI w), .ref w0] : List Value).toArray below meth c H locs 0 0 (MQ below (va_Qi (fun (r : Int32) (_ : Unit) => (r = (nI 1) ∧ backM S wd w L = true) ∨ (r = (nI 0) ∧ backM S wd w L = false)) (ctB D cI cC (fun (_ : Unit) => [(s0, eSnd v1 l1), (v1, eRow va 150), (va, eArr cI 150 S.2), (l1, eRow la 150), (la, eArr cI 150 S.1), (a, eCan b1 b2 sp he air sn), (b2, eRow c2 (3 * nw)), (c2, eArr cI 24 wd), (w0, eWay wb wl), (wb, eRow bb (lenW L)), (bb, eArr cI 9 bt), (wl, eRow bl (lenW L)), (bl, eArr cI 9 lw)]) A) A) ([.ref s0, .ref a, .int (nI w), .ref w0] : List Value).toArray s 0 0 A) (F0 m 3 ls []) := by
    intro nn3
    induction nn3 with
    | zero =>
      intro i hm1
      exact absurd hm1 (Nat.not_lt_zero _)
    | succ nn3 ih3 =>
      intro i hm1 hi2 hno H locs hP hD hS ls hl
      refine lv_iload hx hb dX3_comesBackHeard_3 (lv_at hl 0 rfl) ?_
      refine lv_aload_n hx hb dX3_comesBackHeard_5 rfl (lv_at hl 4 rfl) ?_
      refine k_V (q := (RX5, TX5, 2)) (ci := 5) (As := []) (wr := [(s0, eSnd v1 l1), (v1, eRow va 150), (va, eArr cI 150 S.2), (l1, eRow la 150), (la, eArr cI 150 S.1), (a, eCan b1 b2 sp he air sn), (b2, eRow c2 (3 * nw)), (c2, eArr cI 24 wd), (wl, eRow bl (lenW L)), (bl, eArr cI 9 lw)]) ⟨hx, hb, hml, hown, hts⟩ (c_X5_size l D cI cC w0 wb bb wl bt (lenW L)) (cwV 0 hts gX3_comesBackHeard_X5_size rfl rfl rfl (by decide +kernel) ⟨Nat.le_of_ble_eq_true rfl, Nat.le_of_ble_eq_true rfl⟩) rfl hl.1 rfl (Nat.le_of_ble_eq_true rfl) dX3_comesBackHeard_6 ⟨Nat.zero_le _, Nat.zero_le _⟩ hN hK hP hD hS hA rfl (q0 := 8) rfl [8, 9, 10] [0, 1, 2, 3, 4, 5, 6, 7, 11, 12] rfl rfl ⟨rfl, rfl, by decide⟩ (fun r3 u H locs w4 hP hD hS => ?_)
      obtain rfl : r3 = (nI (lenW L)) := w4
      refine x_icmp_ge (tgt := 33) hx hb dX3_comesBackHeard_9 (by decide) (by omega) (by omega) (fun h5 => ?_) (fun h5 => ?_)
      · refine lv_iconst (v := (nI 0)) hx hb dX3_comesBackHeard_33 (by decide) ?_
        exact x_iret hx hb hr hlocks dX3_comesBackHeard_34 rfl (post := fun (r : Int32) (_ : Unit) => (r = (nI 1) ∧ backM S wd w L = true) ∨ (r = (nI 0) ∧ backM S wd w L = false)) (w1 := fun (_ : Unit) => [(s0, eSnd v1 l1), (v1, eRow va 150), (va, eArr cI 150 S.2), (l1, eRow la 150), (la, eArr cI 150 S.1), (a, eCan b1 b2 sp he air sn), (b2, eRow c2 (3 * nw)), (c2, eArr cI 24 wd), (w0, eWay wb wl), (wb, eRow bb (lenW L)), (bb, eArr cI 9 bt), (wl, eRow bl (lenW L)), (bl, eArr cI 9 lw)]) () (Or.inr ⟨rfl, backM_f hrep (fun j h1 h2 => hno j h1 (by omega))⟩) hK (hP.sub [0, 1, 2, 3, 4, 5, 6, 7, 10, 11, 12, 8, 9] rfl) (hD.sub [0, 1, 2, 3, 4, 5, 6, 7, 10, 11, 12, 8, 9] rfl rfl) hS
      · refine lv_aload_n hx hb dX3_comesBackHeard_12 rfl (lv_at hl 1 rfl) ?_
        refine lv_aload_n hx hb dX3_comesBackHeard_13 rfl (lv_at hl 2 rfl) ?_
        refine lv_iload_n hx hb dX3_comesBackHeard_14 rfl (lv_at hl 3 rfl) ?_
        refine lv_iconst (v := (nI 0)) hx hb dX3_comesBackHeard_15 (by decide) ?_
        refine lv_aload_n hx hb dX3_comesBackHeard_16 rfl (lv_at hl 4 rfl) ?_
        refine lv_iload hx hb dX3_comesBackHeard_17 (lv_at hl 0 rfl) ?_
        refine k_V (q := (RX3, TX3, 2)) (ci := 3) (As := [.ref a, .int (nI w), .int (nI 0), .ref w0, .int (nI i)]) (wr := []) ⟨hx, hb, hml, hown, hts⟩ (c_X3_comesHeard l D cI cC s0 v1 va l1 la S a b1 b2 sp he air sn c2 wd nw w0 wb bb wl bl bt lw L w 0 i (by omega) (by omega) (by omega) (by omega) hS0 hrep (by omega) hokd) (cwV 5 hts gX3_comesBackHeard_X3_comesHeard rfl rfl rfl (by decide +kernel) ⟨Nat.le_of_ble_eq_true rfl, Nat.le_of_ble_eq_true rfl⟩) rfl hl.1 rfl (Nat.le_of_ble_eq_true rfl) dX3_comesBackHeard_19 ⟨Nat.zero_le _, Nat.zero_le _⟩ hN hK hP hD hS hA rfl (q0 := 0) rfl [0, 1, 2, 3, 4, 5, 6, 7, 10, 11, 12, 8, 9] [] rfl rfl ⟨rfl, rfl, by decide⟩ (fun r6 u H locs w7 hP hD hS => ?_)
        obtain ⟨rfl, h8⟩ | ⟨rfl, h9⟩ : (r6 = (nI 1) ∧ hitM S wd w 0 (bt i) (lw i) = true) ∨ (r6 = (nI 0) ∧ hitM S wd w 0 (bt i) (lw i) = false) := w7
        · refine x_if_eq (tgt := 27) hx hb dX3_comesBackHeard_22 (by decide) (by omega) (fun h10 => False.elim (by omega)) (fun h10 => ?_)
          refine lv_iconst (v := (nI 1)) hx hb dX3_comesBackHeard_25 (by decide) ?_
          exact x_iret hx hb hr hlocks dX3_comesBackHeard_26 rfl (post := fun (r : Int32) (_ : Unit) => (r = (nI 1) ∧ backM S wd w L = true) ∨ (r = (nI 0) ∧ backM S wd w L = false)) (w1 := fun (_ : Unit) => [(s0, eSnd v1 l1), (v1, eRow va 150), (va, eArr cI 150 S.2), (l1, eRow la 150), (la, eArr cI 150 S.1), (a, eCan b1 b2 sp he air sn), (b2, eRow c2 (3 * nw)), (c2, eArr cI 24 wd), (w0, eWay wb wl), (wb, eRow bb (lenW L)), (bb, eArr cI 9 bt), (wl, eRow bl (lenW L)), (bl, eArr cI 9 lw)]) () (Or.inl ⟨rfl, backM_t hrep (j := i) (by omega) (by omega) h8⟩) hK hP hD hS
        · refine x_if_eq (tgt := 27) hx hb dX3_comesBackHeard_22 (by decide) (by omega) (fun h11 => ?_) (fun h11 => False.elim (by omega))
          refine lv_iinc (v := (nI (i + 1))) (lv' := [(4, .int (nI (i + 1))), (0, .ref s0), (1, .ref a), (2, .int (nI w)), (3, .ref w0)]) hx hb dX3_comesBackHeard_27 hl (k := 0) rfl (nI_inc _ 1) (by decide) rfl (fun ls hl => ?_)
          refine lv_goto (tgt := 3) hx hb dX3_comesBackHeard_30 (by decide) ?_
          exact ih3 (i + 1) (by omega) (by omega) (fun j h1 h2 => by rcases Nat.lt_or_ge j i with h3 | h3; exact hno j h1 h3; rw [show j = i from by omega]; exact h9) _ _ (hP.sub [0, 1, 2, 3, 4, 5, 6, 7, 8, 9, 10, 11, 12] rfl) (hD.sub [0, 1, 2, 3, 4, 5, 6, 7, 8, 9, 10, 11, 12] rfl rfl) hS _ (lv_sub hl [0, 1, 2, 3, 4] rfl)
  exact loop3 _ 1 (Nat.lt_succ_self _) (by omega) (fun j h1 h2 => absurd h1 (by omega)) _ _ (hP.sub [0, 1, 2, 3, 4, 5, 6, 7, 8, 9, 10, 11, 12] rfl) (hD.sub [0, 1, 2, 3, 4, 5, 6, 7, 8, 9, 10, 11, 12] rfl rfl) hS _ (lv_sub hl [0, 1, 2, 3, 4] rfl)

set_option maxRecDepth 100000 in
set_option maxHeartbeats 4000000 in
theorem c_X3_paidOf (l : Launch) (D : va_G) (cI cC : ClassId) (s0 : Nat) (v1 : Nat) (va : Nat) (l1 : Nat) (la : Nat) (S : Snd) (a : Nat) (b1 : Nat) (b2 : Nat) (sp : Nat) (he : Nat) (air : Nat) (sn : Nat) (c2 : Nat) (wd : Nat → Nat) (nw : Nat) (w0 : Nat) (wb : Nat) (bb : Nat) (wl : Nat) (bl : Nat) (bt : Nat → Nat) (lw : Nat → Nat) (L : List (Nat × Nat)) (hnw : nw ≤ 8) (h0L : 0 < lenW L) (hS0 : okS S) (hrep : repW bt lw L) (hL9 : lenW L ≤ 9) (hokd : okD wd nw) : mtI l D cI cC yX3_paidOf wsX3_paidOf ({ frames := 4, cells := 0, slots := 0, locals := 94 }) [.ref s0, .ref a, .ref w0] [(s0, eSnd v1 l1), (v1, eRow va 150), (va, eArr cI 150 S.2), (l1, eRow la 150), (la, eArr cI 150 S.1), (a, eCan b1 b2 sp he air sn), (b2, eRow c2 (3 * nw)), (c2, eArr cI 24 wd), (w0, eWay wb wl), (wb, eRow bb (lenW L)), (bb, eArr cI 9 bt), (wl, eRow bl (lenW L)), (bl, eArr cI 9 lw)] (fun (r : Int32) (_ : Unit) => r = (nI (cntM (fun w => backM S wd w L) nw))) (fun (_ : Unit) => [(s0, eSnd v1 l1), (v1, eRow va 150), (va, eArr cI 150 S.2), (l1, eRow la 150), (la, eArr cI 150 S.1), (a, eCan b1 b2 sp he air sn), (b2, eRow c2 (3 * nw)), (c2, eArr cI 24 wd), (w0, eWay wb wl), (wb, eRow bb (lenW L)), (bb, eArr cI 9 bt), (wl, eRow bl (lenW L)), (bl, eArr cI 9 lw)]) := by
  refine mtI_of (cc := cX3_paidOf) (maxL := 5) (ret := (some .int)) (by decide) rfl rfl ?_
  intro p e s m below meth c A hx hb hml hr hts hown hlocks hN hA hK hP hD hS ls hl
  have hown : s.vm.findClass RX3 = some m.cls := hown
  have hl : lv_has ls 5 [(0, .ref s0), (1, .ref a), (2, .ref w0)] := hl
  obtain ⟨H, hHe⟩ : ∃ H, H = s.heap := ⟨_, rfl⟩
  rw [← hHe] at hP ⊢
  have hS : va_S A s.heap H [] := by rw [hHe]; exact va_S.rf
  refine lv_iconst (v := (nI 0)) hx hb dX3_paidOf_0 (by decide) ?_
  refine lv_istore_n (lv' := [(3, .int (nI 0)), (0, .ref s0), (1, .ref a), (2, .ref w0)]) hx hb dX3_paidOf_1 rfl hl (by decide) rfl (fun ls hl => ?_)
  refine lv_iconst (v := (nI 0)) hx hb dX3_paidOf_2 (by decide) ?_
  refine lv_istore (lv' := [(4, .int (nI 0)), (3, .int (nI 0)), (0, .ref s0), (1, .ref a), (2, .ref w0)]) hx hb dX3_paidOf_3 hl (by decide) rfl (fun ls hl => ?_)
  have loop5 : ∀ (nn5 : Nat) (i : Nat), nw - i < nn5 → (i ≤ nw) → ∀ (H : Heap) (locs : List Loc), va_P D vwCl [(s0, eSnd v1 l1), (v1, eRow va 150), (va, eArr cI 150 S.2), (l1, eRow la 150), (la, eArr cI 150 S.1), (a, eCan b1 b2 sp he air sn), (b2, eRow c2 (3 * nw)), (c2, eArr cI 24 wd), (w0, eWay wb wl), (wb, eRow bb (lenW L)), (bb, eArr cI 9 bt), (wl, eRow bl (lenW L)), (bl, eArr cI 9 lw)] H → va_D A [(s0, eSnd v1 l1), (v1, eRow va 150), (va, eArr cI 150 S.2), (l1, eRow la 150), (la, eArr cI 150 S.1), (a, eCan b1 b2 sp he air sn), (b2, eRow c2 (3 * nw)), (c2, eArr cI 24 wd), (w0, eWay wb wl), (wb, eRow bb (lenW L)), (bb, eArr cI 9 bt), (wl, eRow bl (lenW L)), (bl, eArr cI 9 lw)] → va_S A s.heap H locs → ∀ ls : Array Slot, lv_has ls 5 [(4, .int (nI i)), (3, .int (nI (cntM (fun w => backM S wd w L) i))), (0, .ref s0), (1, .ref a), (2, .ref w0)] → W p l e (headSpec wsX3_paidOf ({ frames := 4, cells := 0, slots := 0, locals := 94 })).room s m ([.ref s0, .ref a, .ref w0] : List Value).toArray below meth c H locs 0 0 (MQ below (va_Qi (fun (r : Int32) (_ : Unit) => r = (nI (cntM (fun w => backM S wd w L) nw))) (ctB D cI cC (fun (_ : Unit) => [(s0, eSnd v1 l1), (v1, eRow va 150), (va, eArr cI 150 S.2), (l1, eRow la 150), (la, eArr cI 150 S.1), (a, eCan b1 b2 sp he air sn), (b2, eRow c2 (3 * nw)), (c2, eArr cI 24 wd), (w0, eWay wb wl), (wb, eRow bb (lenW L)), (bb, eArr cI 9 bt), (wl, eRow bl (lenW L)), (bl, eArr cI 9 lw)]) A) A) ([.ref s0, .ref a, .ref w0] : List Value).toArray s 0 0 A) (F0 m 5 ls []) := by
    intro nn5
    induction nn5 with
    | zero =>
      intro i hm1
      exact absurd hm1 (Nat.not_lt_zero _)
    | succ nn5 ih5 =>
      intro i hm1 hi2 H locs hP hD hS ls hl
      refine lv_iload hx hb dX3_paidOf_5 (lv_at hl 0 rfl) ?_
      refine lv_aload_n hx hb dX3_paidOf_7 rfl (lv_at hl 3 rfl) ?_
      refine k_V (q := (RX0, TX0, 6)) (ci := 0) (As := []) (wr := [(s0, eSnd v1 l1), (v1, eRow va 150), (va, eArr cI 150 S.2), (l1, eRow la 150), (la, eArr cI 150 S.1), (w0, eWay wb wl), (wb, eRow bb (lenW L)), (bb, eArr cI 9 bt), (wl, eRow bl (lenW L)), (bl, eArr cI 9 lw)]) ⟨hx, hb, hml, hown, hts⟩ (c_X0_wordCount l D cI cC a b1 b2 sp he air sn c2 wd nw (by omega)) (cwV 0 hts gX3_paidOf_X0_wordCount rfl rfl rfl (by decide +kernel) ⟨Nat.le_of_ble_eq_true rfl, Nat.le_of_ble_eq_true rfl⟩) rfl hl.1 rfl (Nat.le_of_ble_eq_true rfl) dX3_paidOf_8 ⟨Nat.zero_le _, Nat.zero_le _⟩ hN hK hP hD hS hA rfl (q0 := 5) rfl [5, 6, 7] [0, 1, 2, 3, 4, 8, 9, 10, 11, 12] rfl rfl ⟨rfl, rfl, by decide⟩ (fun r3 u H locs w4 hP hD hS => ?_)
      obtain rfl : r3 = (nI nw) := w4
      refine x_icmp_ge (tgt := 34) hx hb dX3_paidOf_11 (by decide) (by omega) (by omega) (fun h5 => ?_) (fun h5 => ?_)
      · have ei : nw = i := by omega
        subst ei
        refine lv_iload_n hx hb dX3_paidOf_34 rfl (lv_at hl 1 rfl) ?_
        exact x_iret hx hb hr hlocks dX3_paidOf_35 rfl (post := fun (r : Int32) (_ : Unit) => r = (nI (cntM (fun w => backM S wd w L) nw))) (w1 := fun (_ : Unit) => [(s0, eSnd v1 l1), (v1, eRow va 150), (va, eArr cI 150 S.2), (l1, eRow la 150), (la, eArr cI 150 S.1), (a, eCan b1 b2 sp he air sn), (b2, eRow c2 (3 * nw)), (c2, eArr cI 24 wd), (w0, eWay wb wl), (wb, eRow bb (lenW L)), (bb, eArr cI 9 bt), (wl, eRow bl (lenW L)), (bl, eArr cI 9 lw)]) () rfl hK (hP.sub [0, 1, 2, 3, 4, 10, 11, 12, 5, 6, 7, 8, 9] rfl) (hD.sub [0, 1, 2, 3, 4, 10, 11, 12, 5, 6, 7, 8, 9] rfl rfl) hS
      · refine lv_aload_n hx hb dX3_paidOf_14 rfl (lv_at hl 2 rfl) ?_
        refine lv_aload_n hx hb dX3_paidOf_15 rfl (lv_at hl 3 rfl) ?_
        refine lv_iload hx hb dX3_paidOf_16 (lv_at hl 0 rfl) ?_
        refine lv_aload_n hx hb dX3_paidOf_18 rfl (lv_at hl 4 rfl) ?_
        refine k_V (q := (RX3, TX3, 2)) (ci := 3) (As := [.ref a, .int (nI i), .ref w0]) (wr := []) ⟨hx, hb, hml, hown, hts⟩ (c_X3_comesBackHeard l D cI cC s0 v1 va l1 la S a b1 b2 sp he air sn c2 wd nw w0 wb bb wl bl bt lw L (by omega) (by omega) hS0 hrep (by omega) hokd i (by omega)) (cwV 3 hts gX3_paidOf_X3_comesBackHeard rfl rfl rfl (by decide +kernel) ⟨Nat.le_of_ble_eq_true rfl, Nat.le_of_ble_eq_true rfl⟩) rfl hl.1 rfl (Nat.le_of_ble_eq_true rfl) dX3_paidOf_19 ⟨Nat.zero_le _, Nat.zero_le _⟩ hN hK hP hD hS hA rfl (q0 := 0) rfl [0, 1, 2, 3, 4, 10, 11, 12, 5, 6, 7, 8, 9] [] rfl rfl ⟨rfl, rfl, by decide⟩ (fun r6 u H locs w7 hP hD hS => ?_)
        obtain ⟨rfl, h8⟩ | ⟨rfl, h9⟩ : (r6 = (nI 1) ∧ backM S wd i L = true) ∨ (r6 = (nI 0) ∧ backM S wd i L = false) := w7
        · refine x_if_eq (tgt := 28) hx hb dX3_paidOf_22 (by decide) (by omega) (fun h10 => False.elim (by omega)) (fun h10 => ?_)
          refine lv_iinc (v := (nI (cntM (fun w => backM S wd w L) i + 1))) (lv' := [(3, .int (nI (cntM (fun w => backM S wd w L) i + 1))), (4, .int (nI i)), (0, .ref s0), (1, .ref a), (2, .ref w0)]) hx hb dX3_paidOf_25 hl (k := 1) rfl (nI_inc _ 1) (by decide) rfl (fun ls hl => ?_)
          refine lv_iinc (v := (nI (i + 1))) (lv' := [(4, .int (nI (i + 1))), (3, .int (nI (cntM (fun w => backM S wd w L) i + 1))), (0, .ref s0), (1, .ref a), (2, .ref w0)]) hx hb dX3_paidOf_28 hl (k := 1) rfl (nI_inc _ 1) (by decide) rfl (fun ls hl => ?_)
          refine lv_goto (tgt := 5) hx hb dX3_paidOf_31 (by decide) ?_
          have eb : cntM (fun w => backM S wd w L) i + 1 = cntM (fun w => backM S wd w L) (i + 1) := (cntM_t (c := fun w => backM S wd w L) h8).symm
          rw [show nI (cntM (fun w => backM S wd w L) i + 1) = nI (cntM (fun w => backM S wd w L) (i + 1)) from congrArg nI eb] at hl
          exact ih5 (i + 1) (by omega) (by omega) _ _ (hP.sub [0, 1, 2, 3, 4, 5, 6, 7, 8, 9, 10, 11, 12] rfl) (hD.sub [0, 1, 2, 3, 4, 5, 6, 7, 8, 9, 10, 11, 12] rfl rfl) hS _ (lv_sub hl [0, 1, 2, 3, 4] rfl)
        · refine x_if_eq (tgt := 28) hx hb dX3_paidOf_22 (by decide) (by omega) (fun h11 => ?_) (fun h11 => False.elim (by omega))
          refine lv_iinc (v := (nI (i + 1))) (lv' := [(4, .int (nI (i + 1))), (3, .int (nI (cntM (fun w => backM S wd w L) i))), (0, .ref s0), (1, .ref a), (2, .ref w0)]) hx hb dX3_paidOf_28 hl (k := 0) rfl (nI_inc _ 1) (by decide) rfl (fun ls hl => ?_)
          refine lv_goto (tgt := 5) hx hb dX3_paidOf_31 (by decide) ?_
          have eb : cntM (fun w => backM S wd w L) i = cntM (fun w => backM S wd w L) (i + 1) := (cntM_f (c := fun w => backM S wd w L) h9).symm
          rw [show nI (cntM (fun w => backM S wd w L) i) = nI (cntM (fun w => backM S wd w L) (i + 1)) from congrArg nI eb] at hl
          exact ih5 (i + 1) (by omega) (by omega) _ _ (hP.sub [0, 1, 2, 3, 4, 5, 6, 7, 8, 9, 10, 11, 12] rfl) (hD.sub [0, 1, 2, 3, 4, 5, 6, 7, 8, 9, 10, 11, 12] rfl rfl) hS _ (lv_sub hl [0, 1, 2, 3, 4] rfl)
  exact loop5 _ 0 (Nat.lt_succ_self _) (by omega) _ _ (hP.sub [0, 1, 2, 3, 4, 5, 6, 7, 8, 9, 10, 11, 12] rfl) (hD.sub [0, 1, 2, 3, 4, 5, 6, 7, 8, 9, 10, 11, 12] rfl rfl) hS _ (lv_sub hl [0, 1, 2, 3, 4] rfl)
