set_option maxRecDepth 100000 in
set_option maxHeartbeats 4000000 in
/-- Row.size -/
theorem c_X1_size (l : Launch) (D : va_G) (cI cC : ClassId) (q : Nat) (qa : Nat) (n : Nat) (g : Nat → Nat) (k : Nat) : mtI l D cI cC yX1_size wsX1_size ({ frames := 0, cells := 0, slots := 0, locals := 0 }) [.ref q] [(q, eRow qa k), (qa, eArr cI n g)] (fun (r : Int32) (_ : Unit) => r = (nI k)) (fun (_ : Unit) => [(q, eRow qa k), (qa, eArr cI n g)]) := by
  refine mtI_of (cc := cX1_size) (maxL := 1) (ret := (some .int)) (by decide) rfl rfl ?_
  intro p e s m below meth c A hx hb hml hr hts hown hlocks hN hA hK hP hD hS ls hl
  have hown : s.vm.findClass RX1 = some m.cls := hown
  have hl : lv_has ls 1 [(0, .ref q)] := hl
  have fl21 := hts (.fieldLink RX1 21 "EchoPaysRent$Row" "size" "I") (by decide +kernel)
  have inX1 : ∀ w ∈ wsX10, w ∈ wsX1_size := by decide +kernel
  refine lv_aload_n hx hb dX1_size_0 rfl (lv_at hl 0 rfl) ?_
  refine va_get (D := D) (ci := 1) (v := .int (nI k)) (C := RX1) (T := TX1) (N := 2) hx hb hts inX1 hown hK hP 0 rfl rfl 1 (by decide) fl21 (fun _ h9 => h9) rfl dX1_size_1 ?_
  exact x_iret hx hb hr hlocks dX1_size_4 rfl (w1 := fun (_ : Unit) => [(q, eRow qa k), (qa, eArr cI n g)]) () rfl hK hP hD hS

set_option maxRecDepth 100000 in
set_option maxHeartbeats 4000000 in
theorem c_X1_at_lt (l : Launch) (D : va_G) (cI cC : ClassId) (q : Nat) (qa : Nat) (n : Nat) (g : Nat → Nat) (k : Nat) (i : Nat) (hk : k ≤ n) (hn : n < 2147483648) (hi : i < k) : mtI l D cI cC yX1_at wsX1_at ({ frames := 0, cells := 0, slots := 0, locals := 0 }) [.ref q, .int (nI i)] [(q, eRow qa k), (qa, eArr cI n g)] (fun (r : Int32) (_ : Unit) => r = (nI (g i))) (fun (_ : Unit) => [(q, eRow qa k), (qa, eArr cI n g)]) := by
  refine mtI_of (cc := cX1_at) (maxL := 2) (ret := (some .int)) (by decide) rfl rfl ?_
  intro p e s m below meth c A hx hb hml hr hts hown hlocks hN hA hK hP hD hS ls hl
  have hown : s.vm.findClass RX1 = some m.cls := hown
  have hl : lv_has ls 2 [(0, .ref q), (1, .int (nI i))] := hl
  have fl21 := hts (.fieldLink RX1 21 "EchoPaysRent$Row" "size" "I") (by decide +kernel)
  have inX1 : ∀ w ∈ wsX10, w ∈ wsX1_at := by decide +kernel
  have fl15 := hts (.fieldLink RX1 15 "EchoPaysRent$Row" "cells" "[I") (by decide +kernel)
  refine lv_iload_n hx hb dX1_at_0 rfl (lv_at hl 1 rfl) ?_
  refine x_if_lt (tgt := 30) hx hb dX1_at_1 (by decide) (by omega) (fun h1 => False.elim (by omega)) (fun h1 => ?_)
  refine lv_iload_n hx hb dX1_at_4 rfl (lv_at hl 1 rfl) ?_
  refine lv_aload_n hx hb dX1_at_5 rfl (lv_at hl 0 rfl) ?_
  refine va_get (D := D) (ci := 1) (v := .int (nI k)) (C := RX1) (T := TX1) (N := 2) hx hb hts inX1 hown hK hP 0 rfl rfl 1 (by decide) fl21 (fun _ h9 => h9) rfl dX1_at_6 ?_
  refine x_icmp_ge (tgt := 30) hx hb dX1_at_9 (by decide) (by omega) (by omega) (fun h2 => False.elim (by omega)) (fun h2 => ?_)
  refine lv_iload_n hx hb dX1_at_12 rfl (lv_at hl 1 rfl) ?_
  refine lv_aload_n hx hb dX1_at_13 rfl (lv_at hl 0 rfl) ?_
  refine va_get (D := D) (ci := 1) (v := .ref qa) (C := RX1) (T := TX1) (N := 2) hx hb hts inX1 hown hK hP 0 rfl rfl 0 (by decide) fl15 (fun _ h9 => h9) rfl dX1_at_14 ?_
  refine va_alen hx hb hK hP 1 0 rfl rfl (v := (nI n)) rfl dX1_at_17 ?_
  refine x_icmp_ge (tgt := 30) hx hb dX1_at_18 (by decide) (by omega) (by omega) (fun h3 => False.elim (by omega)) (fun h3 => ?_)
  refine lv_aload_n hx hb dX1_at_21 rfl (lv_at hl 0 rfl) ?_
  refine va_get (D := D) (ci := 1) (v := .ref qa) (C := RX1) (T := TX1) (N := 2) hx hb hts inX1 hown hK hP 0 rfl rfl 0 (by decide) fl15 (fun _ h9 => h9) rfl dX1_at_22 ?_
  refine lv_iload_n hx hb dX1_at_25 rfl (lv_at hl 1 rfl) ?_
  refine x_iald (A := A) hx hb hK hP 1 0 rfl rfl dX1_at_26 (by omega) (by omega) ?_
  refine lv_goto (tgt := 31) hx hb dX1_at_27 (by decide) ?_
  exact x_iret hx hb hr hlocks dX1_at_31 rfl (w1 := fun (_ : Unit) => [(q, eRow qa k), (qa, eArr cI n g)]) () rfl hK hP hD hS

set_option maxRecDepth 100000 in
set_option maxHeartbeats 4000000 in
theorem c_X1_at_ge (l : Launch) (D : va_G) (cI cC : ClassId) (q : Nat) (qa : Nat) (n : Nat) (g : Nat → Nat) (k : Nat) (i : Nat) (hk : k ≤ n) (hn : n < 2147483648) (hi : k ≤ i) (hi2 : i < 2147483648) : mtI l D cI cC yX1_at wsX1_at ({ frames := 0, cells := 0, slots := 0, locals := 0 }) [.ref q, .int (nI i)] [(q, eRow qa k), (qa, eArr cI n g)] (fun (r : Int32) (_ : Unit) => r = (nI 0)) (fun (_ : Unit) => [(q, eRow qa k), (qa, eArr cI n g)]) := by
  refine mtI_of (cc := cX1_at) (maxL := 2) (ret := (some .int)) (by decide) rfl rfl ?_
  intro p e s m below meth c A hx hb hml hr hts hown hlocks hN hA hK hP hD hS ls hl
  have hown : s.vm.findClass RX1 = some m.cls := hown
  have hl : lv_has ls 2 [(0, .ref q), (1, .int (nI i))] := hl
  have fl21 := hts (.fieldLink RX1 21 "EchoPaysRent$Row" "size" "I") (by decide +kernel)
  have inX1 : ∀ w ∈ wsX10, w ∈ wsX1_at := by decide +kernel
  refine lv_iload_n hx hb dX1_at_0 rfl (lv_at hl 1 rfl) ?_
  refine x_if_lt (tgt := 30) hx hb dX1_at_1 (by decide) (by omega) (fun h1 => False.elim (by omega)) (fun h1 => ?_)
  refine lv_iload_n hx hb dX1_at_4 rfl (lv_at hl 1 rfl) ?_
  refine lv_aload_n hx hb dX1_at_5 rfl (lv_at hl 0 rfl) ?_
  refine va_get (D := D) (ci := 1) (v := .int (nI k)) (C := RX1) (T := TX1) (N := 2) hx hb hts inX1 hown hK hP 0 rfl rfl 1 (by decide) fl21 (fun _ h9 => h9) rfl dX1_at_6 ?_
  refine x_icmp_ge (tgt := 30) hx hb dX1_at_9 (by decide) (by omega) (by omega) (fun h2 => ?_) (fun h2 => False.elim (by omega))
  refine lv_iconst (v := (nI 0)) hx hb dX1_at_30 (by decide) ?_
  exact x_iret hx hb hr hlocks dX1_at_31 rfl (w1 := fun (_ : Unit) => [(q, eRow qa k), (qa, eArr cI n g)]) () rfl hK hP hD hS

set_option maxRecDepth 100000 in
set_option maxHeartbeats 4000000 in
theorem c_X1_set_lt (l : Launch) (D : va_G) (cI cC : ClassId) (q : Nat) (qa : Nat) (n : Nat) (g : Nat → Nat) (k : Nat) (i : Nat) (x : Nat) (hk : k ≤ n) (hn : n < 2147483648) (hi : i < k) : mtV l D cI cC yX1_set wsX1_set ({ frames := 0, cells := 0, slots := 0, locals := 0 }) [.ref q, .int (nI i), .int (nI x)] [(q, eRow qa k), (qa, eArr cI n g)] (fun (_ : Unit) => True) (fun (_ : Unit) => [(q, eRow qa k), (qa, eArr cI n (upN g i x))]) := by
  refine mtV_of (cc := cX1_set) (maxL := 3) (ret := none) (by decide) rfl rfl ?_
  intro p e s m below meth c A hx hb hml hr hts hown hlocks hN hA hK hP hD hS ls hl
  have hown : s.vm.findClass RX1 = some m.cls := hown
  have hl : lv_has ls 3 [(0, .ref q), (1, .int (nI i)), (2, .int (nI x))] := hl
  have fl21 := hts (.fieldLink RX1 21 "EchoPaysRent$Row" "size" "I") (by decide +kernel)
  have inX1 : ∀ w ∈ wsX10, w ∈ wsX1_set := by decide +kernel
  have fl15 := hts (.fieldLink RX1 15 "EchoPaysRent$Row" "cells" "[I") (by decide +kernel)
  refine lv_iload_n hx hb dX1_set_0 rfl (lv_at hl 1 rfl) ?_
  refine x_if_lt (tgt := 28) hx hb dX1_set_1 (by decide) (by omega) (fun h1 => False.elim (by omega)) (fun h1 => ?_)
  refine lv_iload_n hx hb dX1_set_4 rfl (lv_at hl 1 rfl) ?_
  refine lv_aload_n hx hb dX1_set_5 rfl (lv_at hl 0 rfl) ?_
  refine va_get (D := D) (ci := 1) (v := .int (nI k)) (C := RX1) (T := TX1) (N := 2) hx hb hts inX1 hown hK hP 0 rfl rfl 1 (by decide) fl21 (fun _ h9 => h9) rfl dX1_set_6 ?_
  refine x_icmp_ge (tgt := 28) hx hb dX1_set_9 (by decide) (by omega) (by omega) (fun h2 => False.elim (by omega)) (fun h2 => ?_)
  refine lv_iload_n hx hb dX1_set_12 rfl (lv_at hl 1 rfl) ?_
  refine lv_aload_n hx hb dX1_set_13 rfl (lv_at hl 0 rfl) ?_
  refine va_get (D := D) (ci := 1) (v := .ref qa) (C := RX1) (T := TX1) (N := 2) hx hb hts inX1 hown hK hP 0 rfl rfl 0 (by decide) fl15 (fun _ h9 => h9) rfl dX1_set_14 ?_
  refine va_alen hx hb hK hP 1 0 rfl rfl (v := (nI n)) rfl dX1_set_17 ?_
  refine x_icmp_ge (tgt := 28) hx hb dX1_set_18 (by decide) (by omega) (by omega) (fun h3 => False.elim (by omega)) (fun h3 => ?_)
  refine lv_aload_n hx hb dX1_set_21 rfl (lv_at hl 0 rfl) ?_
  refine va_get (D := D) (ci := 1) (v := .ref qa) (C := RX1) (T := TX1) (N := 2) hx hb hts inX1 hown hK hP 0 rfl rfl 0 (by decide) fl15 (fun _ h9 => h9) rfl dX1_set_22 ?_
  refine lv_iload_n hx hb dX1_set_25 rfl (lv_at hl 1 rfl) ?_
  refine lv_iload_n hx hb dX1_set_26 rfl (lv_at hl 2 rfl) ?_
  refine x_iast (A := A) hx hb hK hP hD hS 1 0 rfl rfl dX1_set_27 (by omega) (by omega) (fun H locs hP hD hS => ?_)
  have hP : va_P D vwCl [(q, eRow qa k), (qa, eArr cI n (upN g i x))] H := by have h := hP; rw [upd_nI] at h; exact h
  have hD : va_D A [(q, eRow qa k), (qa, eArr cI n (upN g i x))] := by have h := hD; rw [upd_nI] at h; exact h
  exact x_vret hx hb hr hlocks dX1_set_28 (w1 := fun (_ : Unit) => [(q, eRow qa k), (qa, eArr cI n (upN g i x))]) () trivial hK hP hD hS

set_option maxRecDepth 100000 in
set_option maxHeartbeats 4000000 in
theorem c_X1_set_ge (l : Launch) (D : va_G) (cI cC : ClassId) (q : Nat) (qa : Nat) (n : Nat) (g : Nat → Nat) (k : Nat) (i : Nat) (x : Nat) (hk : k ≤ n) (hn : n < 2147483648) (hi : k ≤ i) (hi2 : i < 2147483648) : mtV l D cI cC yX1_set wsX1_set ({ frames := 0, cells := 0, slots := 0, locals := 0 }) [.ref q, .int (nI i), .int (nI x)] [(q, eRow qa k), (qa, eArr cI n g)] (fun (_ : Unit) => True) (fun (_ : Unit) => [(q, eRow qa k), (qa, eArr cI n g)]) := by
  refine mtV_of (cc := cX1_set) (maxL := 3) (ret := none) (by decide) rfl rfl ?_
  intro p e s m below meth c A hx hb hml hr hts hown hlocks hN hA hK hP hD hS ls hl
  have hown : s.vm.findClass RX1 = some m.cls := hown
  have hl : lv_has ls 3 [(0, .ref q), (1, .int (nI i)), (2, .int (nI x))] := hl
  have fl21 := hts (.fieldLink RX1 21 "EchoPaysRent$Row" "size" "I") (by decide +kernel)
  have inX1 : ∀ w ∈ wsX10, w ∈ wsX1_set := by decide +kernel
  refine lv_iload_n hx hb dX1_set_0 rfl (lv_at hl 1 rfl) ?_
  refine x_if_lt (tgt := 28) hx hb dX1_set_1 (by decide) (by omega) (fun h1 => False.elim (by omega)) (fun h1 => ?_)
  refine lv_iload_n hx hb dX1_set_4 rfl (lv_at hl 1 rfl) ?_
  refine lv_aload_n hx hb dX1_set_5 rfl (lv_at hl 0 rfl) ?_
  refine va_get (D := D) (ci := 1) (v := .int (nI k)) (C := RX1) (T := TX1) (N := 2) hx hb hts inX1 hown hK hP 0 rfl rfl 1 (by decide) fl21 (fun _ h9 => h9) rfl dX1_set_6 ?_
  refine x_icmp_ge (tgt := 28) hx hb dX1_set_9 (by decide) (by omega) (by omega) (fun h2 => ?_) (fun h2 => False.elim (by omega))
  exact x_vret hx hb hr hlocks dX1_set_28 (w1 := fun (_ : Unit) => [(q, eRow qa k), (qa, eArr cI n g)]) () trivial hK hP hD hS

set_option maxRecDepth 100000 in
set_option maxHeartbeats 4000000 in
theorem c_X1_add_lt (l : Launch) (D : va_G) (cI cC : ClassId) (q : Nat) (qa : Nat) (n : Nat) (g : Nat → Nat) (k : Nat) (x : Nat) (hn : n < 2147483648) (hk : k < n) : mtI l D cI cC yX1_add wsX1_add ({ frames := 0, cells := 0, slots := 0, locals := 0 }) [.ref q, .int (nI x)] [(q, eRow qa k), (qa, eArr cI n g)] (fun (r : Int32) (_ : Unit) => r = (nI 1)) (fun (_ : Unit) => [(q, eRow qa (k + 1)), (qa, eArr cI n (upN g k x))]) := by
  refine mtI_of (cc := cX1_add) (maxL := 2) (ret := (some .boolean)) (by decide) rfl rfl ?_
  intro p e s m below meth c A hx hb hml hr hts hown hlocks hN hA hK hP hD hS ls hl
  have hown : s.vm.findClass RX1 = some m.cls := hown
  have hl : lv_has ls 2 [(0, .ref q), (1, .int (nI x))] := hl
  have fl21 := hts (.fieldLink RX1 21 "EchoPaysRent$Row" "size" "I") (by decide +kernel)
  have inX1 : ∀ w ∈ wsX10, w ∈ wsX1_add := by decide +kernel
  have fl15 := hts (.fieldLink RX1 15 "EchoPaysRent$Row" "cells" "[I") (by decide +kernel)
  refine lv_aload_n hx hb dX1_add_0 rfl (lv_at hl 0 rfl) ?_
  refine va_get (D := D) (ci := 1) (v := .int (nI k)) (C := RX1) (T := TX1) (N := 2) hx hb hts inX1 hown hK hP 0 rfl rfl 1 (by decide) fl21 (fun _ h9 => h9) rfl dX1_add_1 ?_
  refine x_if_lt (tgt := 19) hx hb dX1_add_4 (by decide) (by omega) (fun h1 => False.elim (by omega)) (fun h1 => ?_)
  refine lv_aload_n hx hb dX1_add_7 rfl (lv_at hl 0 rfl) ?_
  refine va_get (D := D) (ci := 1) (v := .int (nI k)) (C := RX1) (T := TX1) (N := 2) hx hb hts inX1 hown hK hP 0 rfl rfl 1 (by decide) fl21 (fun _ h9 => h9) rfl dX1_add_8 ?_
  refine lv_aload_n hx hb dX1_add_11 rfl (lv_at hl 0 rfl) ?_
  refine va_get (D := D) (ci := 1) (v := .ref qa) (C := RX1) (T := TX1) (N := 2) hx hb hts inX1 hown hK hP 0 rfl rfl 0 (by decide) fl15 (fun _ h9 => h9) rfl dX1_add_12 ?_
  refine va_alen hx hb hK hP 1 0 rfl rfl (v := (nI n)) rfl dX1_add_15 ?_
  refine x_icmp_lt (tgt := 21) hx hb dX1_add_16 (by decide) (by omega) (by omega) (fun h2 => ?_) (fun h2 => False.elim (by omega))
  refine lv_aload_n hx hb dX1_add_21 rfl (lv_at hl 0 rfl) ?_
  refine va_get (D := D) (ci := 1) (v := .ref qa) (C := RX1) (T := TX1) (N := 2) hx hb hts inX1 hown hK hP 0 rfl rfl 0 (by decide) fl15 (fun _ h9 => h9) rfl dX1_add_22 ?_
  refine lv_aload_n hx hb dX1_add_25 rfl (lv_at hl 0 rfl) ?_
  refine va_get (D := D) (ci := 1) (v := .int (nI k)) (C := RX1) (T := TX1) (N := 2) hx hb hts inX1 hown hK hP 0 rfl rfl 1 (by decide) fl21 (fun _ h9 => h9) rfl dX1_add_26 ?_
  refine lv_iload_n hx hb dX1_add_29 rfl (lv_at hl 1 rfl) ?_
  refine x_iast (A := A) hx hb hK hP hD hS 1 0 rfl rfl dX1_add_30 (by omega) (by omega) (fun H locs hP hD hS => ?_)
  have hP : va_P D vwCl [(q, eRow qa k), (qa, eArr cI n (upN g k x))] H := by have h := hP; rw [upd_nI] at h; exact h
  have hD : va_D A [(q, eRow qa k), (qa, eArr cI n (upN g k x))] := by have h := hD; rw [upd_nI] at h; exact h
  refine lv_aload_n hx hb dX1_add_31 rfl (lv_at hl 0 rfl) ?_
  refine lv_dup hx hb dX1_add_32 rfl ?_
  refine va_get (D := D) (ci := 1) (v := .int (nI k)) (C := RX1) (T := TX1) (N := 2) hx hb hts inX1 hown hK hP 0 rfl rfl 1 (by decide) fl21 (fun _ h9 => h9) rfl dX1_add_33 ?_
  refine lv_iconst (v := (nI 1)) hx hb dX1_add_36 (by decide) ?_
  refine x_iadd hx hb dX1_add_37 ?_
  refine va_put (D := D) (ci := 1) (v := .int (nI (k + 1))) (ty := .int) (C := RX1) (T := TX1) (N := 2) hx hb hts inX1 tyX1 tyX1_ok nmX1 hown hK hP hD hS 0 rfl rfl 1 (by decide) fl21 (fun _ h9 => h9) rfl (by decide +kernel) rfl rfl (Nat.le_of_ble_eq_true rfl) dX1_add_38 (fun H locs hP hD hS => ?_)
  have hP : va_P D vwCl [(q, eRow qa (k + 1)), (qa, eArr cI n (upN g k x))] H := hP
  have hD : va_D A [(q, eRow qa (k + 1)), (qa, eArr cI n (upN g k x))] := hD
  refine lv_iconst (v := (nI 1)) hx hb dX1_add_41 (by decide) ?_
  exact x_iret hx hb hr hlocks dX1_add_42 rfl (w1 := fun (_ : Unit) => [(q, eRow qa (k + 1)), (qa, eArr cI n (upN g k x))]) () rfl hK hP hD hS

set_option maxRecDepth 100000 in
set_option maxHeartbeats 4000000 in
theorem c_X1_add_ge (l : Launch) (D : va_G) (cI cC : ClassId) (q : Nat) (qa : Nat) (n : Nat) (g : Nat → Nat) (k : Nat) (x : Nat) (hn : n < 2147483648) (hk : k = n) : mtI l D cI cC yX1_add wsX1_add ({ frames := 0, cells := 0, slots := 0, locals := 0 }) [.ref q, .int (nI x)] [(q, eRow qa k), (qa, eArr cI n g)] (fun (r : Int32) (_ : Unit) => r = (nI 0)) (fun (_ : Unit) => [(q, eRow qa k), (qa, eArr cI n g)]) := by
  refine mtI_of (cc := cX1_add) (maxL := 2) (ret := (some .boolean)) (by decide) rfl rfl ?_
  intro p e s m below meth c A hx hb hml hr hts hown hlocks hN hA hK hP hD hS ls hl
  have hown : s.vm.findClass RX1 = some m.cls := hown
  have hl : lv_has ls 2 [(0, .ref q), (1, .int (nI x))] := hl
  have fl21 := hts (.fieldLink RX1 21 "EchoPaysRent$Row" "size" "I") (by decide +kernel)
  have inX1 : ∀ w ∈ wsX10, w ∈ wsX1_add := by decide +kernel
  have fl15 := hts (.fieldLink RX1 15 "EchoPaysRent$Row" "cells" "[I") (by decide +kernel)
  refine lv_aload_n hx hb dX1_add_0 rfl (lv_at hl 0 rfl) ?_
  refine va_get (D := D) (ci := 1) (v := .int (nI k)) (C := RX1) (T := TX1) (N := 2) hx hb hts inX1 hown hK hP 0 rfl rfl 1 (by decide) fl21 (fun _ h9 => h9) rfl dX1_add_1 ?_
  refine x_if_lt (tgt := 19) hx hb dX1_add_4 (by decide) (by omega) (fun h1 => False.elim (by omega)) (fun h1 => ?_)
  refine lv_aload_n hx hb dX1_add_7 rfl (lv_at hl 0 rfl) ?_
  refine va_get (D := D) (ci := 1) (v := .int (nI k)) (C := RX1) (T := TX1) (N := 2) hx hb hts inX1 hown hK hP 0 rfl rfl 1 (by decide) fl21 (fun _ h9 => h9) rfl dX1_add_8 ?_
  refine lv_aload_n hx hb dX1_add_11 rfl (lv_at hl 0 rfl) ?_
  refine va_get (D := D) (ci := 1) (v := .ref qa) (C := RX1) (T := TX1) (N := 2) hx hb hts inX1 hown hK hP 0 rfl rfl 0 (by decide) fl15 (fun _ h9 => h9) rfl dX1_add_12 ?_
  refine va_alen hx hb hK hP 1 0 rfl rfl (v := (nI n)) rfl dX1_add_15 ?_
  refine x_icmp_lt (tgt := 21) hx hb dX1_add_16 (by decide) (by omega) (by omega) (fun h2 => False.elim (by omega)) (fun h2 => ?_)
  refine lv_iconst (v := (nI 0)) hx hb dX1_add_19 (by decide) ?_
  exact x_iret hx hb hr hlocks dX1_add_20 rfl (w1 := fun (_ : Unit) => [(q, eRow qa k), (qa, eArr cI n g)]) () rfl hK hP hD hS

set_option maxRecDepth 100000 in
set_option maxHeartbeats 4000000 in
theorem c_X1_addThree_lt (l : Launch) (D : va_G) (cI cC : ClassId) (q : Nat) (qa : Nat) (n : Nat) (g : Nat → Nat) (k : Nat) (x : Nat) (y : Nat) (z : Nat) (hn : n < 2147480000) (hk : k + 3 ≤ n) : mtI l D cI cC yX1_addThree wsX1_addThree ({ frames := 1, cells := 0, slots := 0, locals := 21 }) [.ref q, .int (nI x), .int (nI y), .int (nI z)] [(q, eRow qa k), (qa, eArr cI n g)] (fun (r : Int32) (_ : Unit) => r = (nI 1)) (fun (_ : Unit) => [(q, eRow qa (k + 1 + 1 + 1)), (qa, eArr cI n (upN (upN (upN g k x) (k + 1) y) (k + 1 + 1) z))]) := by
  refine mtI_of (cc := cX1_addThree) (maxL := 4) (ret := (some .boolean)) (by decide) rfl rfl ?_
  intro p e s m below meth c A hx hb hml hr hts hown hlocks hN hA hK hP hD hS ls hl
  have hown : s.vm.findClass RX1 = some m.cls := hown
  have hl : lv_has ls 4 [(0, .ref q), (1, .int (nI x)), (2, .int (nI y)), (3, .int (nI z))] := hl
  have fl21 := hts (.fieldLink RX1 21 "EchoPaysRent$Row" "size" "I") (by decide +kernel)
  have inX1 : ∀ w ∈ wsX10, w ∈ wsX1_addThree := by decide +kernel
  have fl15 := hts (.fieldLink RX1 15 "EchoPaysRent$Row" "cells" "[I") (by decide +kernel)
  refine lv_aload_n hx hb dX1_addThree_0 rfl (lv_at hl 0 rfl) ?_
  refine va_get (D := D) (ci := 1) (v := .int (nI k)) (C := RX1) (T := TX1) (N := 2) hx hb hts inX1 hown hK hP 0 rfl rfl 1 (by decide) fl21 (fun _ h9 => h9) rfl dX1_addThree_1 ?_
  refine lv_iconst (v := (nI 3)) hx hb dX1_addThree_4 (by decide) ?_
  refine x_iadd hx hb dX1_addThree_5 ?_
  refine lv_aload_n hx hb dX1_addThree_6 rfl (lv_at hl 0 rfl) ?_
  refine va_get (D := D) (ci := 1) (v := .ref qa) (C := RX1) (T := TX1) (N := 2) hx hb hts inX1 hown hK hP 0 rfl rfl 0 (by decide) fl15 (fun _ h9 => h9) rfl dX1_addThree_7 ?_
  refine va_alen hx hb hK hP 1 0 rfl rfl (v := (nI n)) rfl dX1_addThree_10 ?_
  refine x_icmp_le (tgt := 16) hx hb dX1_addThree_11 (by decide) (by omega) (by omega) (fun h1 => ?_) (fun h1 => False.elim (by omega))
  refine lv_aload_n hx hb dX1_addThree_16 rfl (lv_at hl 0 rfl) ?_
  refine lv_iload_n hx hb dX1_addThree_17 rfl (lv_at hl 1 rfl) ?_
  refine k_V (q := (RX1, TX1, 2)) (ci := 1) (As := [.int (nI x)]) (wr := []) ⟨hx, hb, hml, hown, hts⟩ (c_X1_add_lt l D cI cC q qa n g k x (by omega) (by omega)) (cwV 1 hts gX1_addThree_X1_add rfl rfl rfl (by decide +kernel) ⟨Nat.le_of_ble_eq_true rfl, Nat.le_of_ble_eq_true rfl⟩) rfl hl.1 rfl (Nat.le_of_ble_eq_true rfl) dX1_addThree_18 ⟨Nat.zero_le _, Nat.zero_le _⟩ hN hK hP hD hS hA rfl (q0 := 0) rfl [0, 1] [] rfl rfl ⟨rfl, rfl, by decide⟩ (fun r2 u H locs w3 hP hD hS => ?_)
  obtain rfl : r2 = (nI 1) := w3
  refine x_if_eq (tgt := 44) hx hb dX1_addThree_21 (by decide) (by omega) (fun h4 => False.elim (by omega)) (fun h4 => ?_)
  refine lv_aload_n hx hb dX1_addThree_24 rfl (lv_at hl 0 rfl) ?_
  refine lv_iload_n hx hb dX1_addThree_25 rfl (lv_at hl 2 rfl) ?_
  refine k_V (q := (RX1, TX1, 2)) (ci := 1) (As := [.int (nI y)]) (wr := []) ⟨hx, hb, hml, hown, hts⟩ (c_X1_add_lt l D cI cC q qa n (upN g k x) (k + 1) y (by omega) (by omega)) (cwV 1 hts gX1_addThree_X1_add rfl rfl rfl (by decide +kernel) ⟨Nat.le_of_ble_eq_true rfl, Nat.le_of_ble_eq_true rfl⟩) rfl hl.1 rfl (Nat.le_of_ble_eq_true rfl) dX1_addThree_26 ⟨Nat.zero_le _, Nat.zero_le _⟩ hN hK hP hD hS hA rfl (q0 := 0) rfl [0, 1] [] rfl rfl ⟨rfl, rfl, by decide⟩ (fun r5 u H locs w6 hP hD hS => ?_)
  obtain rfl : r5 = (nI 1) := w6
  refine x_if_eq (tgt := 44) hx hb dX1_addThree_29 (by decide) (by omega) (fun h7 => False.elim (by omega)) (fun h7 => ?_)
  refine lv_aload_n hx hb dX1_addThree_32 rfl (lv_at hl 0 rfl) ?_
  refine lv_iload_n hx hb dX1_addThree_33 rfl (lv_at hl 3 rfl) ?_
  refine k_V (q := (RX1, TX1, 2)) (ci := 1) (As := [.int (nI z)]) (wr := []) ⟨hx, hb, hml, hown, hts⟩ (c_X1_add_lt l D cI cC q qa n (upN (upN g k x) (k + 1) y) ((k + 1) + 1) z (by omega) (by omega)) (cwV 1 hts gX1_addThree_X1_add rfl rfl rfl (by decide +kernel) ⟨Nat.le_of_ble_eq_true rfl, Nat.le_of_ble_eq_true rfl⟩) rfl hl.1 rfl (Nat.le_of_ble_eq_true rfl) dX1_addThree_34 ⟨Nat.zero_le _, Nat.zero_le _⟩ hN hK hP hD hS hA rfl (q0 := 0) rfl [0, 1] [] rfl rfl ⟨rfl, rfl, by decide⟩ (fun r8 u H locs w9 hP hD hS => ?_)
  obtain rfl : r8 = (nI 1) := w9
  refine x_if_eq (tgt := 44) hx hb dX1_addThree_37 (by decide) (by omega) (fun h10 => False.elim (by omega)) (fun h10 => ?_)
  refine lv_iconst (v := (nI 1)) hx hb dX1_addThree_40 (by decide) ?_
  refine lv_goto (tgt := 45) hx hb dX1_addThree_41 (by decide) ?_
  exact x_iret hx hb hr hlocks dX1_addThree_45 rfl (w1 := fun (_ : Unit) => [(q, eRow qa (k + 1 + 1 + 1)), (qa, eArr cI n (upN (upN (upN g k x) (k + 1) y) (k + 1 + 1) z))]) () rfl hK hP hD hS

set_option maxRecDepth 100000 in
set_option maxHeartbeats 4000000 in
theorem c_X1_addThree_ge (l : Launch) (D : va_G) (cI cC : ClassId) (q : Nat) (qa : Nat) (n : Nat) (g : Nat → Nat) (k : Nat) (x : Nat) (y : Nat) (z : Nat) (hn : n < 2147480000) (hk : k ≤ n) (hk2 : n < k + 3) : mtI l D cI cC yX1_addThree wsX1_addThree ({ frames := 0, cells := 0, slots := 0, locals := 0 }) [.ref q, .int (nI x), .int (nI y), .int (nI z)] [(q, eRow qa k), (qa, eArr cI n g)] (fun (r : Int32) (_ : Unit) => r = (nI 0)) (fun (_ : Unit) => [(q, eRow qa k), (qa, eArr cI n g)]) := by
  refine mtI_of (cc := cX1_addThree) (maxL := 4) (ret := (some .boolean)) (by decide) rfl rfl ?_
  intro p e s m below meth c A hx hb hml hr hts hown hlocks hN hA hK hP hD hS ls hl
  have hown : s.vm.findClass RX1 = some m.cls := hown
  have hl : lv_has ls 4 [(0, .ref q), (1, .int (nI x)), (2, .int (nI y)), (3, .int (nI z))] := hl
  have fl21 := hts (.fieldLink RX1 21 "EchoPaysRent$Row" "size" "I") (by decide +kernel)
  have inX1 : ∀ w ∈ wsX10, w ∈ wsX1_addThree := by decide +kernel
  have fl15 := hts (.fieldLink RX1 15 "EchoPaysRent$Row" "cells" "[I") (by decide +kernel)
  refine lv_aload_n hx hb dX1_addThree_0 rfl (lv_at hl 0 rfl) ?_
  refine va_get (D := D) (ci := 1) (v := .int (nI k)) (C := RX1) (T := TX1) (N := 2) hx hb hts inX1 hown hK hP 0 rfl rfl 1 (by decide) fl21 (fun _ h9 => h9) rfl dX1_addThree_1 ?_
  refine lv_iconst (v := (nI 3)) hx hb dX1_addThree_4 (by decide) ?_
  refine x_iadd hx hb dX1_addThree_5 ?_
  refine lv_aload_n hx hb dX1_addThree_6 rfl (lv_at hl 0 rfl) ?_
  refine va_get (D := D) (ci := 1) (v := .ref qa) (C := RX1) (T := TX1) (N := 2) hx hb hts inX1 hown hK hP 0 rfl rfl 0 (by decide) fl15 (fun _ h9 => h9) rfl dX1_addThree_7 ?_
  refine va_alen hx hb hK hP 1 0 rfl rfl (v := (nI n)) rfl dX1_addThree_10 ?_
  refine x_icmp_le (tgt := 16) hx hb dX1_addThree_11 (by decide) (by omega) (by omega) (fun h1 => False.elim (by omega)) (fun h1 => ?_)
  refine lv_iconst (v := (nI 0)) hx hb dX1_addThree_14 (by decide) ?_
  exact x_iret hx hb hr hlocks dX1_addThree_15 rfl (w1 := fun (_ : Unit) => [(q, eRow qa k), (qa, eArr cI n g)]) () rfl hK hP hD hS

set_option maxRecDepth 100000 in
set_option maxHeartbeats 4000000 in
theorem c_X1_drop (l : Launch) (D : va_G) (cI cC : ClassId) (q : Nat) (qa : Nat) (n : Nat) (g : Nat → Nat) (k : Nat) : mtV l D cI cC yX1_drop wsX1_drop ({ frames := 0, cells := 0, slots := 0, locals := 0 }) [.ref q] [(q, eRow qa k), (qa, eArr cI n g)] (fun (_ : Unit) => True) (fun (_ : Unit) => [(q, eRow qa 0), (qa, eArr cI n g)]) := by
  refine mtV_of (cc := cX1_drop) (maxL := 1) (ret := none) (by decide) rfl rfl ?_
  intro p e s m below meth c A hx hb hml hr hts hown hlocks hN hA hK hP hD hS ls hl
  have hown : s.vm.findClass RX1 = some m.cls := hown
  have hl : lv_has ls 1 [(0, .ref q)] := hl
  have fl21 := hts (.fieldLink RX1 21 "EchoPaysRent$Row" "size" "I") (by decide +kernel)
  have inX1 : ∀ w ∈ wsX10, w ∈ wsX1_drop := by decide +kernel
  refine lv_aload_n hx hb dX1_drop_0 rfl (lv_at hl 0 rfl) ?_
  refine lv_iconst (v := (nI 0)) hx hb dX1_drop_1 (by decide) ?_
  refine va_put (D := D) (ci := 1) (v := .int (nI 0)) (ty := .int) (C := RX1) (T := TX1) (N := 2) hx hb hts inX1 tyX1 tyX1_ok nmX1 hown hK hP hD hS 0 rfl rfl 1 (by decide) fl21 (fun _ h9 => h9) rfl (by decide +kernel) rfl rfl (Nat.le_of_ble_eq_true rfl) dX1_drop_2 (fun H locs hP hD hS => ?_)
  have hP : va_P D vwCl [(q, eRow qa 0), (qa, eArr cI n g)] H := hP
  have hD : va_D A [(q, eRow qa 0), (qa, eArr cI n g)] := hD
  exact x_vret hx hb hr hlocks dX1_drop_5 (w1 := fun (_ : Unit) => [(q, eRow qa 0), (qa, eArr cI n g)]) () trivial hK hP hD hS

/-- the first k of g2, behind them g -/
def cpN (g g2 : Nat → Nat) (k : Nat) : Nat → Nat := fun j => if j < k then g2 j else g j
theorem cpN_0 (g g2 : Nat → Nat) : cpN g g2 0 = g := by
  funext j; unfold cpN; rw [if_neg (Nat.not_lt_zero j)]
theorem cpN_s (g g2 : Nat → Nat) (i : Nat) : cpN g g2 (i + 1) = upN (cpN g g2 i) i (g2 i) := by
  funext j; unfold cpN upN; dsimp only
  by_cases h : j = i
  · subst h; rw [if_pos (by omega), if_pos rfl]
  · rw [if_neg h]
    by_cases h2 : j < i
    · rw [if_pos (by omega), if_pos h2]
    · rw [if_neg (by omega), if_neg h2]
theorem cpN_lt {g g2 : Nat → Nat} {k j : Nat} (h : j < k) : cpN g g2 k j = g2 j := if_pos h

set_option maxRecDepth 100000 in
set_option maxHeartbeats 4000000 in
theorem c_X1_copy (l : Launch) (D : va_G) (cI cC : ClassId) (q : Nat) (qa : Nat) (n : Nat) (g : Nat → Nat) (k : Nat) (q2 : Nat) (qb : Nat) (n2 : Nat) (g2 : Nat → Nat) (k2 : Nat) (hn : n < 2147483648) (hn2 : n2 < 2147483648) (hk2 : k2 ≤ n2) (hkn : k2 ≤ n) : mtV l D cI cC yX1_copy wsX1_copy ({ frames := 1, cells := 0, slots := 0, locals := 21 }) [.ref q, .ref q2] [(q, eRow qa k), (qa, eArr cI n g), (q2, eRow qb k2), (qb, eArr cI n2 g2)] (fun (_ : Unit) => True) (fun (_ : Unit) => [(q, eRow qa k2), (qa, eArr cI n (cpN g g2 k2)), (q2, eRow qb k2), (qb, eArr cI n2 g2)]) := by
  refine mtV_of (cc := cX1_copy) (maxL := 3) (ret := none) (by decide) rfl rfl ?_
  intro p e s m below meth c A hx hb hml hr hts hown hlocks hN hA hK hP hD hS ls hl
  have hown : s.vm.findClass RX1 = some m.cls := hown
  have hl : lv_has ls 3 [(0, .ref q), (1, .ref q2)] := hl
  have fl21 := hts (.fieldLink RX1 21 "EchoPaysRent$Row" "size" "I") (by decide +kernel)
  have inX1 : ∀ w ∈ wsX10, w ∈ wsX1_copy := by decide +kernel
  refine lv_aload_n hx hb dX1_copy_0 rfl (lv_at hl 0 rfl) ?_
  refine k_Vv (q := (RX1, TX1, 2)) (ci := 1) (As := []) (wr := [(q2, eRow qb k2), (qb, eArr cI n2 g2)]) ⟨hx, hb, hml, hown, hts⟩ (c_X1_drop l D cI cC q qa n g k) (cwV 0 hts gX1_copy_X1_drop rfl rfl rfl (by decide +kernel) ⟨Nat.le_of_ble_eq_true rfl, Nat.le_of_ble_eq_true rfl⟩) rfl hl.1 rfl (Nat.le_of_ble_eq_true rfl) dX1_copy_1 ⟨Nat.zero_le _, Nat.zero_le _⟩ hN hK hP hD hS hA rfl (q0 := 0) rfl [0, 1] [2, 3] rfl rfl ⟨rfl, rfl, by decide⟩ (fun u H locs w2 hP hD hS => ?_)
  refine lv_iconst (v := (nI 0)) hx hb dX1_copy_4 (by decide) ?_
  refine lv_istore_n (lv' := [(2, .int (nI 0)), (0, .ref q), (1, .ref q2)]) hx hb dX1_copy_5 rfl hl (by decide) rfl (fun ls hl => ?_)
  have loop6 : ∀ (nn6 : Nat) (i : Nat), k2 - i < nn6 → i ≤ k2 → ∀ (H : Heap) (locs : List Loc), va_P D vwCl [(q, eRow qa i), (qa, eArr cI n (cpN g g2 i)), (q2, eRow qb k2), (qb, eArr cI n2 g2)] H → va_D A [(q, eRow qa i), (qa, eArr cI n (cpN g g2 i)), (q2, eRow qb k2), (qb, eArr cI n2 g2)] → va_S A s.heap H locs → ∀ ls : Array Slot, lv_has ls 3 [(2, .int (nI i)), (0, .ref q), (1, .ref q2)] → W p l e (headSpec wsX1_copy ({ frames := 1, cells := 0, slots := 0, locals := 21 })).room s m ([.ref q, .ref q2] : List Value).toArray below meth c H locs 0 0 (MQ below (va_Qv (fun (_ : Unit) => True) (ctB D cI cC (fun (_ : Unit) => [(q, eRow qa k2), (qa, eArr cI n (cpN g g2 k2)), (q2, eRow qb k2), (qb, eArr cI n2 g2)]) A) A) ([.ref q, .ref q2] : List Value).toArray s 0 0 A) (F0 m 6 ls []) := by
    intro nn6
    induction nn6 with
    | zero =>
      intro i hm3
      exact absurd hm3 (Nat.not_lt_zero _)
    | succ nn6 ih6 =>
      intro i hm3 hi4 H locs hP hD hS ls hl
      refine lv_iload_n hx hb dX1_copy_6 rfl (lv_at hl 0 rfl) ?_
      refine lv_aload_n hx hb dX1_copy_7 rfl (lv_at hl 2 rfl) ?_
      refine va_get (D := D) (ci := 1) (v := .int (nI k2)) (C := RX1) (T := TX1) (N := 2) hx hb hts inX1 hown hK hP 2 rfl rfl 1 (by decide) fl21 (fun _ h9 => h9) rfl dX1_copy_8 ?_
      refine x_icmp_ge (tgt := 30) hx hb dX1_copy_11 (by decide) (by omega) (by omega) (fun h5 => ?_) (fun h5 => ?_)
      · have e6 : k2 = i := by omega
        subst e6
        exact x_vret hx hb hr hlocks dX1_copy_30 (w1 := fun (_ : Unit) => [(q, eRow qa k2), (qa, eArr cI n (cpN g g2 k2)), (q2, eRow qb k2), (qb, eArr cI n2 g2)]) () trivial hK hP hD hS
      · refine lv_aload_n hx hb dX1_copy_14 rfl (lv_at hl 1 rfl) ?_
        refine lv_aload_n hx hb dX1_copy_15 rfl (lv_at hl 2 rfl) ?_
        refine lv_iload_n hx hb dX1_copy_16 rfl (lv_at hl 0 rfl) ?_
        refine k_V (q := (RX1, TX1, 2)) (ci := 1) (As := [.int (nI i)]) (wr := [(q, eRow qa i), (qa, eArr cI n (cpN g g2 i))]) ⟨hx, hb, hml, hown, hts⟩ (c_X1_at_lt l D cI cC q2 qb n2 g2 k2 i (by omega) (by omega) (by omega)) (cwV 1 hts gX1_copy_X1_at rfl rfl rfl (by decide +kernel) ⟨Nat.le_of_ble_eq_true rfl, Nat.le_of_ble_eq_true rfl⟩) rfl hl.1 rfl (Nat.le_of_ble_eq_true rfl) dX1_copy_17 ⟨Nat.zero_le _, Nat.zero_le _⟩ hN hK hP hD hS hA rfl (q0 := 2) rfl [2, 3] [0, 1] rfl rfl ⟨rfl, rfl, by decide⟩ (fun r7 u H locs w8 hP hD hS => ?_)
        obtain rfl : r7 = (nI (g2 i)) := w8
        refine k_V (q := (RX1, TX1, 2)) (ci := 1) (As := [.int (nI (g2 i))]) (wr := [(q2, eRow qb k2), (qb, eArr cI n2 g2)]) ⟨hx, hb, hml, hown, hts⟩ (c_X1_add_lt l D cI cC q qa n (cpN g g2 i) i (g2 i) (by omega) (by omega)) (cwV 1 hts gX1_copy_X1_add rfl rfl rfl (by decide +kernel) ⟨Nat.le_of_ble_eq_true rfl, Nat.le_of_ble_eq_true rfl⟩) rfl hl.1 rfl (Nat.le_of_ble_eq_true rfl) dX1_copy_20 ⟨Nat.zero_le _, Nat.zero_le _⟩ hN hK hP hD hS hA rfl (q0 := 0) rfl [0, 1] [2, 3] rfl rfl ⟨rfl, rfl, by decide⟩ (fun r9 u H locs w10 hP hD hS => ?_)
        obtain rfl : r9 = (nI 1) := w10
        refine lv_pop hx hb dX1_copy_23 rfl ?_
        refine lv_iinc (v := (nI (i + 1))) (lv' := [(2, .int (nI (i + 1))), (0, .ref q), (1, .ref q2)]) hx hb dX1_copy_24 hl (k := 0) rfl (nI_inc _ 1) (by decide) rfl (fun ls hl => ?_)
        refine lv_goto (tgt := 6) hx hb dX1_copy_27 (by decide) ?_
        have hP : va_P D vwCl [(q2, eRow qb k2), (qb, eArr cI n2 g2), (q, eRow qa (i + 1)), (qa, eArr cI n (cpN g g2 (i + 1)))] H := by rw [cpN_s]; exact hP
        have hD : va_D A [(q2, eRow qb k2), (qb, eArr cI n2 g2), (q, eRow qa (i + 1)), (qa, eArr cI n (cpN g g2 (i + 1)))] := by rw [cpN_s]; exact hD
        exact ih6 (i + 1) (by omega) (by omega) _ _ (hP.sub [2, 3, 0, 1] rfl) (hD.sub [2, 3, 0, 1] rfl rfl) hS _ (lv_sub hl [0, 1, 2] rfl)
  have hP : va_P D vwCl [(q2, eRow qb k2), (qb, eArr cI n2 g2), (q, eRow qa 0), (qa, eArr cI n (cpN g g2 0))] H := by rw [cpN_0]; exact hP
  have hD : va_D A [(q2, eRow qb k2), (qb, eArr cI n2 g2), (q, eRow qa 0), (qa, eArr cI n (cpN g g2 0))] := by rw [cpN_0]; exact hD
  exact loop6 _ 0 (Nat.lt_succ_self _) (by omega) _ _ (hP.sub [2, 3, 0, 1] rfl) (hD.sub [2, 3, 0, 1] rfl rfl) hS _ (lv_sub hl [0, 1, 2] rfl)
