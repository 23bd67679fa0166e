set_option maxRecDepth 100000 in
set_option maxHeartbeats 4000000 in
theorem c_X6_within (l : Launch) (D : va_G) (cI cC : ClassId) (z : Int) (lo : Int) (hi : Int) (hz : -2147483648 ≤ z ∧ z < 2147483648) (hlo : -2147483648 ≤ lo ∧ lo < 2147483648) (hhi : -2147483648 ≤ hi ∧ hi < 2147483648) : mtI l D cI cC yX6_within wsX6_within ({ frames := 0, cells := 0, slots := 0, locals := 0 }) [.int (iI z), .int (iI lo), .int (iI hi)] [] (fun (r : Int32) (_ : Unit) => (r = (nI 1) ∧ lo ≤ z ∧ z ≤ hi) ∨ (r = (nI 0) ∧ (z < lo ∨ hi < z))) (fun (_ : Unit) => []) := by
  refine mtI_of (cc := cX6_within) (maxL := 3) (ret := (some .boolean)) (by decide) rfl rfl ?_
  intro p e s m below meth c A hx hb hml hr hts hown hlocks hN hA hK hP hD hS ls hl
  have hown : s.vm.findClass RX6 = some m.cls := hown
  have hl : lv_has ls 3 [(0, .int (iI z)), (1, .int (iI lo)), (2, .int (iI hi))] := hl
  refine lv_iload_n hx hb dX6_within_0 rfl (lv_at hl 0 rfl) ?_
  refine lv_iload_n hx hb dX6_within_1 rfl (lv_at hl 1 rfl) ?_
  refine z_icmp_lt (tgt := 14) hx hb dX6_within_2 (by decide) (by omega) (by omega) (fun h1 => ?_) (fun h1 => ?_)
  · refine lv_iconst (v := (nI 0)) hx hb dX6_within_14 (by decide) ?_
    exact x_iret hx hb hr hlocks dX6_within_15 rfl (w1 := fun (_ : Unit) => []) () (Or.inr ⟨rfl, (by omega)⟩) hK hP hD hS
  · refine lv_iload_n hx hb dX6_within_5 rfl (lv_at hl 0 rfl) ?_
    refine lv_iload_n hx hb dX6_within_6 rfl (lv_at hl 2 rfl) ?_
    refine z_icmp_gt (tgt := 14) hx hb dX6_within_7 (by decide) (by omega) (by omega) (fun h2 => ?_) (fun h2 => ?_)
    · refine lv_iconst (v := (nI 0)) hx hb dX6_within_14 (by decide) ?_
      exact x_iret hx hb hr hlocks dX6_within_15 rfl (w1 := fun (_ : Unit) => []) () (Or.inr ⟨rfl, (by omega)⟩) hK hP hD hS
    · refine lv_iconst (v := (nI 1)) hx hb dX6_within_10 (by decide) ?_
      refine lv_goto (tgt := 15) hx hb dX6_within_11 (by decide) ?_
      exact x_iret hx hb hr hlocks dX6_within_15 rfl (w1 := fun (_ : Unit) => []) () (Or.inl ⟨rfl, (by omega), (by omega)⟩) hK hP hD hS

set_option maxRecDepth 100000 in
set_option maxHeartbeats 4000000 in
theorem c_X6_isYard (l : Launch) (D : va_G) (cI cC : ClassId) (y : Int) (hy : -2147483648 ≤ y ∧ y < 2147483648) : mtI l D cI cC yX6_isYard wsX6_isYard ({ frames := 1, cells := 0, slots := 0, locals := 22 }) [.int (iI y)] [] (fun (r : Int32) (_ : Unit) => (r = (nI 1) ∧ 0 ≤ y ∧ y ≤ 40) ∨ (r = (nI 0) ∧ (y < 0 ∨ 40 < y))) (fun (_ : Unit) => []) := by
  refine mtI_of (cc := cX6_isYard) (maxL := 1) (ret := (some .boolean)) (by decide) rfl rfl ?_
  intro p e s m below meth c A hx hb hml hr hts hown hlocks hN hA hK hP hD hS ls hl
  have hown : s.vm.findClass RX6 = some m.cls := hown
  have hl : lv_has ls 1 [(0, .int (iI y))] := hl
  refine lv_iload_n hx hb dX6_isYard_0 rfl (lv_at hl 0 rfl) ?_
  refine lv_iconst (v := (nI 0)) hx hb dX6_isYard_1 (by decide) ?_
  refine lv_bipush (v := (nI 40)) hx hb dX6_isYard_2 (by decide) ?_
  refine k_S (As := [.int (iI y), .int (iI (((0 : Nat) : Int))), .int (iI (((40 : Nat) : Int)))]) (wr := []) ⟨hx, hb, hml, hown, hts⟩ (c_X6_within l D cI cC y (((0 : Nat) : Int)) (((40 : Nat) : Int)) (by omega) (by omega) (by omega)) (cwS 3 hts gX6_isYard_X6_within rfl rfl rfl (by decide +kernel) ⟨Nat.le_of_ble_eq_true rfl, Nat.le_of_ble_eq_true rfl⟩) rfl hl.1 (by simp only [nI_iI]; rfl) (Nat.le_of_ble_eq_true rfl) dX6_isYard_4 ⟨Nat.zero_le _, Nat.zero_le _⟩ hN hK hP hD hS hA [] [] rfl rfl ⟨rfl, rfl, by decide⟩ (fun r1 u H locs w2 hP hD hS => ?_)
  obtain ⟨rfl, h3, h4⟩ | ⟨rfl, h5⟩ : (r1 = (nI 1) ∧ (((0 : Nat) : Int)) ≤ y ∧ y ≤ (((40 : Nat) : Int))) ∨ (r1 = (nI 0) ∧ (y < (((0 : Nat) : Int)) ∨ (((40 : Nat) : Int)) < y)) := w2
  · exact x_iret hx hb hr hlocks dX6_isYard_7 rfl (w1 := fun (_ : Unit) => []) () (Or.inl ⟨rfl, (by omega), (by omega)⟩) hK hP hD hS
  · exact x_iret hx hb hr hlocks dX6_isYard_7 rfl (w1 := fun (_ : Unit) => []) () (Or.inr ⟨rfl, (by omega)⟩) hK hP hD hS

set_option maxRecDepth 100000 in
set_option maxHeartbeats 4000000 in
theorem c_X6_isBeat (l : Launch) (D : va_G) (cI cC : ClassId) (y : Int) (hy : -2147483648 ≤ y ∧ y < 2147483648) : mtI l D cI cC yX6_isBeat wsX6_isBeat ({ frames := 1, cells := 0, slots := 0, locals := 22 }) [.int (iI y)] [] (fun (r : Int32) (_ : Unit) => (r = (nI 1) ∧ 0 ≤ y ∧ y ≤ 149) ∨ (r = (nI 0) ∧ (y < 0 ∨ 149 < y))) (fun (_ : Unit) => []) := by
  refine mtI_of (cc := cX6_isBeat) (maxL := 1) (ret := (some .boolean)) (by decide) rfl rfl ?_
  intro p e s m below meth c A hx hb hml hr hts hown hlocks hN hA hK hP hD hS ls hl
  have hown : s.vm.findClass RX6 = some m.cls := hown
  have hl : lv_has ls 1 [(0, .int (iI y))] := hl
  refine lv_iload_n hx hb dX6_isBeat_0 rfl (lv_at hl 0 rfl) ?_
  refine lv_iconst (v := (nI 0)) hx hb dX6_isBeat_1 (by decide) ?_
  refine lv_sipush (v := (nI 149)) hx hb dX6_isBeat_2 (by decide) ?_
  refine k_S (As := [.int (iI y), .int (iI (((0 : Nat) : Int))), .int (iI (((149 : Nat) : Int)))]) (wr := []) ⟨hx, hb, hml, hown, hts⟩ (c_X6_within l D cI cC y (((0 : Nat) : Int)) (((149 : Nat) : Int)) (by omega) (by omega) (by omega)) (cwS 3 hts gX6_isBeat_X6_within rfl rfl rfl (by decide +kernel) ⟨Nat.le_of_ble_eq_true rfl, Nat.le_of_ble_eq_true rfl⟩) rfl hl.1 (by simp only [nI_iI]; rfl) (Nat.le_of_ble_eq_true rfl) dX6_isBeat_5 ⟨Nat.zero_le _, Nat.zero_le _⟩ hN hK hP hD hS hA [] [] rfl rfl ⟨rfl, rfl, by decide⟩ (fun r1 u H locs w2 hP hD hS => ?_)
  obtain ⟨rfl, h3, h4⟩ | ⟨rfl, h5⟩ : (r1 = (nI 1) ∧ (((0 : Nat) : Int)) ≤ y ∧ y ≤ (((149 : Nat) : Int))) ∨ (r1 = (nI 0) ∧ (y < (((0 : Nat) : Int)) ∨ (((149 : Nat) : Int)) < y)) := w2
  · exact x_iret hx hb hr hlocks dX6_isBeat_8 rfl (w1 := fun (_ : Unit) => []) () (Or.inl ⟨rfl, (by omega), (by omega)⟩) hK hP hD hS
  · exact x_iret hx hb hr hlocks dX6_isBeat_8 rfl (w1 := fun (_ : Unit) => []) () (Or.inr ⟨rfl, (by omega)⟩) hK hP hD hS

set_option maxRecDepth 100000 in
set_option maxHeartbeats 4000000 in
theorem c_X6_isCliff (l : Launch) (D : va_G) (cI cC : ClassId) (x : Int) (y : Int) (z : Int) (hx : -2147483648 ≤ x ∧ x < 2147483648) (hy : -2147483648 ≤ y ∧ y < 2147483648) (hz : -2147483648 ≤ z ∧ z < 2147483648) : mtI l D cI cC yX6_isCliff wsX6_isCliff ({ frames := 2, cells := 0, slots := 0, locals := 42 }) [.int (iI x), .int (iI y), .int (iI z)] [] (fun (r : Int32) (_ : Unit) => (r = (nI 1) ∧ 0 ≤ x ∧ x ≤ 40 ∧ 0 ≤ y ∧ y ≤ 9 ∧ 0 ≤ z ∧ z ≤ 3) ∨ (r = (nI 0) ∧ (x < 0 ∨ 40 < x ∨ y < 0 ∨ 9 < y ∨ z < 0 ∨ 3 < z))) (fun (_ : Unit) => []) := by
  refine mtI_of (cc := cX6_isCliff) (maxL := 3) (ret := (some .boolean)) (by decide) rfl rfl ?_
  intro p e s m below meth c A hx hb hml hr hts hown hlocks hN hA hK hP hD hS ls hl
  have hown : s.vm.findClass RX6 = some m.cls := hown
  have hl : lv_has ls 3 [(0, .int (iI x)), (1, .int (iI y)), (2, .int (iI z))] := hl
  refine lv_iload_n hx hb dX6_isCliff_0 rfl (lv_at hl 0 rfl) ?_
  refine k_S (As := [.int (iI x)]) (wr := []) ⟨hx, hb, hml, hown, hts⟩ (c_X6_isYard l D cI cC x (by omega)) (cwS 1 hts gX6_isCliff_X6_isYard rfl rfl rfl (by decide +kernel) ⟨Nat.le_of_ble_eq_true rfl, Nat.le_of_ble_eq_true rfl⟩) rfl hl.1 rfl (Nat.le_of_ble_eq_true rfl) dX6_isCliff_1 ⟨Nat.zero_le _, Nat.zero_le _⟩ hN hK hP hD hS hA [] [] rfl rfl ⟨rfl, rfl, by decide⟩ (fun r1 u H locs w2 hP hD hS => ?_)
  obtain ⟨rfl, h3, h4⟩ | ⟨rfl, h5⟩ : (r1 = (nI 1) ∧ 0 ≤ x ∧ x ≤ 40) ∨ (r1 = (nI 0) ∧ (x < 0 ∨ 40 < x)) := w2
  · refine x_if_eq (tgt := 30) hx hb dX6_isCliff_4 (by decide) (by omega) (fun h6 => False.elim (by omega)) (fun h6 => ?_)
    refine lv_iload_n hx hb dX6_isCliff_7 rfl (lv_at hl 1 rfl) ?_
    refine lv_iconst (v := (nI 0)) hx hb dX6_isCliff_8 (by decide) ?_
    refine lv_bipush (v := (nI 9)) hx hb dX6_isCliff_9 (by decide) ?_
    refine k_S (As := [.int (iI y), .int (iI (((0 : Nat) : Int))), .int (iI (((9 : Nat) : Int)))]) (wr := []) ⟨hx, hb, hml, hown, hts⟩ (c_X6_within l D cI cC y (((0 : Nat) : Int)) (((9 : Nat) : Int)) (by omega) (by omega) (by omega)) (cwS 3 hts gX6_isCliff_X6_within rfl rfl rfl (by decide +kernel) ⟨Nat.le_of_ble_eq_true rfl, Nat.le_of_ble_eq_true rfl⟩) rfl hl.1 (by simp only [nI_iI]; rfl) (Nat.le_of_ble_eq_true rfl) dX6_isCliff_11 ⟨Nat.zero_le _, Nat.zero_le _⟩ hN hK hP hD hS hA [] [] rfl rfl ⟨rfl, rfl, by decide⟩ (fun r7 u H locs w8 hP hD hS => ?_)
    obtain ⟨rfl, h9, h10⟩ | ⟨rfl, h11⟩ : (r7 = (nI 1) ∧ (((0 : Nat) : Int)) ≤ y ∧ y ≤ (((9 : Nat) : Int))) ∨ (r7 = (nI 0) ∧ (y < (((0 : Nat) : Int)) ∨ (((9 : Nat) : Int)) < y)) := w8
    · refine x_if_eq (tgt := 30) hx hb dX6_isCliff_14 (by decide) (by omega) (fun h12 => False.elim (by omega)) (fun h12 => ?_)
      refine lv_iload_n hx hb dX6_isCliff_17 rfl (lv_at hl 2 rfl) ?_
      refine lv_iconst (v := (nI 0)) hx hb dX6_isCliff_18 (by decide) ?_
      refine lv_iconst (v := (nI 3)) hx hb dX6_isCliff_19 (by decide) ?_
      refine k_S (As := [.int (iI z), .int (iI (((0 : Nat) : Int))), .int (iI (((3 : Nat) : Int)))]) (wr := []) ⟨hx, hb, hml, hown, hts⟩ (c_X6_within l D cI cC z (((0 : Nat) : Int)) (((3 : Nat) : Int)) (by omega) (by omega) (by omega)) (cwS 3 hts gX6_isCliff_X6_within rfl rfl rfl (by decide +kernel) ⟨Nat.le_of_ble_eq_true rfl, Nat.le_of_ble_eq_true rfl⟩) rfl hl.1 (by simp only [nI_iI]; rfl) (Nat.le_of_ble_eq_true rfl) dX6_isCliff_20 ⟨Nat.zero_le _, Nat.zero_le _⟩ hN hK hP hD hS hA [] [] rfl rfl ⟨rfl, rfl, by decide⟩ (fun r13 u H locs w14 hP hD hS => ?_)
      obtain ⟨rfl, h15, h16⟩ | ⟨rfl, h17⟩ : (r13 = (nI 1) ∧ (((0 : Nat) : Int)) ≤ z ∧ z ≤ (((3 : Nat) : Int))) ∨ (r13 = (nI 0) ∧ (z < (((0 : Nat) : Int)) ∨ (((3 : Nat) : Int)) < z)) := w14
      · refine x_if_eq (tgt := 30) hx hb dX6_isCliff_23 (by decide) (by omega) (fun h18 => False.elim (by omega)) (fun h18 => ?_)
        refine lv_iconst (v := (nI 1)) hx hb dX6_isCliff_26 (by decide) ?_
        refine lv_goto (tgt := 31) hx hb dX6_isCliff_27 (by decide) ?_
        exact x_iret hx hb hr hlocks dX6_isCliff_31 rfl (w1 := fun (_ : Unit) => []) () (Or.inl ⟨rfl, (by omega), (by omega), (by omega), (by omega), (by omega), (by omega)⟩) hK hP hD hS
      · refine x_if_eq (tgt := 30) hx hb dX6_isCliff_23 (by decide) (by omega) (fun h19 => ?_) (fun h19 => False.elim (by omega))
        refine lv_iconst (v := (nI 0)) hx hb dX6_isCliff_30 (by decide) ?_
        exact x_iret hx hb hr hlocks dX6_isCliff_31 rfl (w1 := fun (_ : Unit) => []) () (Or.inr ⟨rfl, (by omega)⟩) hK hP hD hS
    · refine x_if_eq (tgt := 30) hx hb dX6_isCliff_14 (by decide) (by omega) (fun h20 => ?_) (fun h20 => False.elim (by omega))
      refine lv_iconst (v := (nI 0)) hx hb dX6_isCliff_30 (by decide) ?_
      exact x_iret hx hb hr hlocks dX6_isCliff_31 rfl (w1 := fun (_ : Unit) => []) () (Or.inr ⟨rfl, (by omega)⟩) hK hP hD hS
  · refine x_if_eq (tgt := 30) hx hb dX6_isCliff_4 (by decide) (by omega) (fun h21 => ?_) (fun h21 => False.elim (by omega))
    refine lv_iconst (v := (nI 0)) hx hb dX6_isCliff_30 (by decide) ?_
    exact x_iret hx hb hr hlocks dX6_isCliff_31 rfl (w1 := fun (_ : Unit) => []) () (Or.inr ⟨rfl, (by omega)⟩) hK hP hD hS

set_option maxRecDepth 100000 in
set_option maxHeartbeats 4000000 in
theorem c_X6_isWord (l : Launch) (D : va_G) (cI cC : ClassId) (x : Int) (y : Int) (z : Int) (hx : -2147483648 ≤ x ∧ x < 2147483648) (hy : -2147483648 ≤ y ∧ y < 2147483648) (hz : -2147483648 ≤ z ∧ z < 2147483648) : mtI l D cI cC yX6_isWord wsX6_isWord ({ frames := 1, cells := 0, slots := 0, locals := 22 }) [.int (iI x), .int (iI y), .int (iI z)] [] (fun (r : Int32) (_ : Unit) => (r = (nI 1) ∧ 0 ≤ x ∧ x ≤ 30 ∧ 1 ≤ y ∧ y ≤ 7 ∧ 1 ≤ z ∧ z ≤ 60) ∨ (r = (nI 0) ∧ (x < 0 ∨ 30 < x ∨ y < 1 ∨ 7 < y ∨ z < 1 ∨ 60 < z))) (fun (_ : Unit) => []) := by
  refine mtI_of (cc := cX6_isWord) (maxL := 3) (ret := (some .boolean)) (by decide) rfl rfl ?_
  intro p e s m below meth c A hx hb hml hr hts hown hlocks hN hA hK hP hD hS ls hl
  have hown : s.vm.findClass RX6 = some m.cls := hown
  have hl : lv_has ls 3 [(0, .int (iI x)), (1, .int (iI y)), (2, .int (iI z))] := hl
  refine lv_iload_n hx hb dX6_isWord_0 rfl (lv_at hl 0 rfl) ?_
  refine lv_iconst (v := (nI 0)) hx hb dX6_isWord_1 (by decide) ?_
  refine lv_bipush (v := (nI 30)) hx hb dX6_isWord_2 (by decide) ?_
  refine k_S (As := [.int (iI x), .int (iI (((0 : Nat) : Int))), .int (iI (((30 : Nat) : Int)))]) (wr := []) ⟨hx, hb, hml, hown, hts⟩ (c_X6_within l D cI cC x (((0 : Nat) : Int)) (((30 : Nat) : Int)) (by omega) (by omega) (by omega)) (cwS 3 hts gX6_isWord_X6_within rfl rfl rfl (by decide +kernel) ⟨Nat.le_of_ble_eq_true rfl, Nat.le_of_ble_eq_true rfl⟩) rfl hl.1 (by simp only [nI_iI]; rfl) (Nat.le_of_ble_eq_true rfl) dX6_isWord_4 ⟨Nat.zero_le _, Nat.zero_le _⟩ hN hK hP hD hS hA [] [] rfl rfl ⟨rfl, rfl, by decide⟩ (fun r1 u H locs w2 hP hD hS => ?_)
  obtain ⟨rfl, h3, h4⟩ | ⟨rfl, h5⟩ : (r1 = (nI 1) ∧ (((0 : Nat) : Int)) ≤ x ∧ x ≤ (((30 : Nat) : Int))) ∨ (r1 = (nI 0) ∧ (x < (((0 : Nat) : Int)) ∨ (((30 : Nat) : Int)) < x)) := w2
  · refine x_if_eq (tgt := 34) hx hb dX6_isWord_7 (by decide) (by omega) (fun h6 => False.elim (by omega)) (fun h6 => ?_)
    refine lv_iload_n hx hb dX6_isWord_10 rfl (lv_at hl 1 rfl) ?_
    refine lv_iconst (v := (nI 1)) hx hb dX6_isWord_11 (by decide) ?_
    refine lv_bipush (v := (nI 7)) hx hb dX6_isWord_12 (by decide) ?_
    refine k_S (As := [.int (iI y), .int (iI (((1 : Nat) : Int))), .int (iI (((7 : Nat) : Int)))]) (wr := []) ⟨hx, hb, hml, hown, hts⟩ (c_X6_within l D cI cC y (((1 : Nat) : Int)) (((7 : Nat) : Int)) (by omega) (by omega) (by omega)) (cwS 3 hts gX6_isWord_X6_within rfl rfl rfl (by decide +kernel) ⟨Nat.le_of_ble_eq_true rfl, Nat.le_of_ble_eq_true rfl⟩) rfl hl.1 (by simp only [nI_iI]; rfl) (Nat.le_of_ble_eq_true rfl) dX6_isWord_14 ⟨Nat.zero_le _, Nat.zero_le _⟩ hN hK hP hD hS hA [] [] rfl rfl ⟨rfl, rfl, by decide⟩ (fun r7 u H locs w8 hP hD hS => ?_)
    obtain ⟨rfl, h9, h10⟩ | ⟨rfl, h11⟩ : (r7 = (nI 1) ∧ (((1 : Nat) : Int)) ≤ y ∧ y ≤ (((7 : Nat) : Int))) ∨ (r7 = (nI 0) ∧ (y < (((1 : Nat) : Int)) ∨ (((7 : Nat) : Int)) < y)) := w8
    · refine x_if_eq (tgt := 34) hx hb dX6_isWord_17 (by decide) (by omega) (fun h12 => False.elim (by omega)) (fun h12 => ?_)
      refine lv_iload_n hx hb dX6_isWord_20 rfl (lv_at hl 2 rfl) ?_
      refine lv_iconst (v := (nI 1)) hx hb dX6_isWord_21 (by decide) ?_
      refine lv_bipush (v := (nI 60)) hx hb dX6_isWord_22 (by decide) ?_
      refine k_S (As := [.int (iI z), .int (iI (((1 : Nat) : Int))), .int (iI (((60 : Nat) : Int)))]) (wr := []) ⟨hx, hb, hml, hown, hts⟩ (c_X6_within l D cI cC z (((1 : Nat) : Int)) (((60 : Nat) : Int)) (by omega) (by omega) (by omega)) (cwS 3 hts gX6_isWord_X6_within rfl rfl rfl (by decide +kernel) ⟨Nat.le_of_ble_eq_true rfl, Nat.le_of_ble_eq_true rfl⟩) rfl hl.1 (by simp only [nI_iI]; rfl) (Nat.le_of_ble_eq_true rfl) dX6_isWord_24 ⟨Nat.zero_le _, Nat.zero_le _⟩ hN hK hP hD hS hA [] [] rfl rfl ⟨rfl, rfl, by decide⟩ (fun r13 u H locs w14 hP hD hS => ?_)
      obtain ⟨rfl, h15, h16⟩ | ⟨rfl, h17⟩ : (r13 = (nI 1) ∧ (((1 : Nat) : Int)) ≤ z ∧ z ≤ (((60 : Nat) : Int))) ∨ (r13 = (nI 0) ∧ (z < (((1 : Nat) : Int)) ∨ (((60 : Nat) : Int)) < z)) := w14
      · refine x_if_eq (tgt := 34) hx hb dX6_isWord_27 (by decide) (by omega) (fun h18 => False.elim (by omega)) (fun h18 => ?_)
        refine lv_iconst (v := (nI 1)) hx hb dX6_isWord_30 (by decide) ?_
        refine lv_goto (tgt := 35) hx hb dX6_isWord_31 (by decide) ?_
        exact x_iret hx hb hr hlocks dX6_isWord_35 rfl (w1 := fun (_ : Unit) => []) () (Or.inl ⟨rfl, (by omega), (by omega), (by omega), (by omega), (by omega), (by omega)⟩) hK hP hD hS
      · refine x_if_eq (tgt := 34) hx hb dX6_isWord_27 (by decide) (by omega) (fun h19 => ?_) (fun h19 => False.elim (by omega))
        refine lv_iconst (v := (nI 0)) hx hb dX6_isWord_34 (by decide) ?_
        exact x_iret hx hb hr hlocks dX6_isWord_35 rfl (w1 := fun (_ : Unit) => []) () (Or.inr ⟨rfl, (by omega)⟩) hK hP hD hS
    · refine x_if_eq (tgt := 34) hx hb dX6_isWord_17 (by decide) (by omega) (fun h20 => ?_) (fun h20 => False.elim (by omega))
      refine lv_iconst (v := (nI 0)) hx hb dX6_isWord_34 (by decide) ?_
      exact x_iret hx hb hr hlocks dX6_isWord_35 rfl (w1 := fun (_ : Unit) => []) () (Or.inr ⟨rfl, (by omega)⟩) hK hP hD hS
  · refine x_if_eq (tgt := 34) hx hb dX6_isWord_7 (by decide) (by omega) (fun h21 => ?_) (fun h21 => False.elim (by omega))
    refine lv_iconst (v := (nI 0)) hx hb dX6_isWord_34 (by decide) ?_
    exact x_iret hx hb hr hlocks dX6_isWord_35 rfl (w1 := fun (_ : Unit) => []) () (Or.inr ⟨rfl, (by omega)⟩) hK hP hD hS

set_option maxRecDepth 100000 in
set_option maxHeartbeats 4000000 in
theorem c_X0_cliffCount (l : Launch) (D : va_G) (cI cC : ClassId) (a : Nat) (b1 : Nat) (b2 : Nat) (sp : Nat) (he : Nat) (air : Nat) (sn : Nat) (c1 : Nat) (cl : Nat → Nat) (nc : Nat) (hnc : nc ≤ 4) : mtI l D cI cC yX0_cliffCount wsX0_cliffCount ({ frames := 1, cells := 0, slots := 0, locals := 20 }) [.ref a] [(a, eCan b1 b2 sp he air sn), (b1, eRow c1 (3 * nc)), (c1, eArr cI 12 cl)] (fun (r : Int32) (_ : Unit) => r = (nI nc)) (fun (_ : Unit) => [(a, eCan b1 b2 sp he air sn), (b1, eRow c1 (3 * nc)), (c1, eArr cI 12 cl)]) := by
  refine mtI_of (cc := cX0_cliffCount) (maxL := 1) (ret := (some .int)) (by decide) rfl rfl ?_
  intro p e s m below meth c A hx hb hml hr hts hown hlocks hN hA hK hP hD hS ls hl
  have hown : s.vm.findClass RX0 = some m.cls := hown
  have hl : lv_has ls 1 [(0, .ref a)] := hl
  have fl14 := hts (.fieldLink RX0 14 "EchoPaysRent$Canyon" "cliffs" "LEchoPaysRent$Row;") (by decide +kernel)
  have inX0 : ∀ w ∈ wsX00, w ∈ wsX0_cliffCount := by decide +kernel
  refine lv_aload_n hx hb dX0_cliffCount_0 rfl (lv_at hl 0 rfl) ?_
  refine va_get (D := D) (ci := 0) (v := .ref b1) (C := RX0) (T := TX0) (N := 6) hx hb hts inX0 hown hK hP 0 rfl rfl 0 (by decide) fl14 (fun _ h9 => h9) rfl dX0_cliffCount_1 ?_
  refine k_V (q := (RX1, TX1, 2)) (ci := 1) (As := []) (wr := [(a, eCan b1 b2 sp he air sn)]) ⟨hx, hb, hml, hown, hts⟩ (c_X1_size l D cI cC b1 c1 12 cl (3 * nc)) (cwV 0 hts gX0_cliffCount_X1_size rfl rfl rfl (by decide +kernel) ⟨Nat.le_of_ble_eq_true rfl, Nat.le_of_ble_eq_true rfl⟩) rfl hl.1 rfl (Nat.le_of_ble_eq_true rfl) dX0_cliffCount_4 ⟨Nat.zero_le _, Nat.zero_le _⟩ hN hK hP hD hS hA rfl (q0 := 1) rfl [1, 2] [0] rfl rfl ⟨rfl, rfl, by decide⟩ (fun r1 u H locs w2 hP hD hS => ?_)
  obtain rfl : r1 = (nI (3 * nc)) := w2
  refine lv_iconst (v := (nI 3)) hx hb dX0_cliffCount_7 (by decide) ?_
  refine x_idiv hx hb dX0_cliffCount_8 (by omega) (by omega) (by omega) ?_
  refine x_top (show nI ((3 * nc) / 3) = nI nc from congrArg nI (by omega)) ?_
  exact x_iret hx hb hr hlocks dX0_cliffCount_9 rfl (w1 := fun (_ : Unit) => [(a, eCan b1 b2 sp he air sn), (b1, eRow c1 (3 * nc)), (c1, eArr cI 12 cl)]) () rfl hK hP hD hS

set_option maxRecDepth 100000 in
set_option maxHeartbeats 4000000 in
theorem c_X0_wordCount (l : Launch) (D : va_G) (cI cC : ClassId) (a : Nat) (b1 : Nat) (b2 : Nat) (sp : Nat) (he : Nat) (air : Nat) (sn : Nat) (c2 : Nat) (wd : Nat → Nat) (nw : Nat) (hnw : nw ≤ 8) : mtI l D cI cC yX0_wordCount wsX0_wordCount ({ frames := 1, cells := 0, slots := 0, locals := 20 }) [.ref a] [(a, eCan b1 b2 sp he air sn), (b2, eRow c2 (3 * nw)), (c2, eArr cI 24 wd)] (fun (r : Int32) (_ : Unit) => r = (nI nw)) (fun (_ : Unit) => [(a, eCan b1 b2 sp he air sn), (b2, eRow c2 (3 * nw)), (c2, eArr cI 24 wd)]) := by
  refine mtI_of (cc := cX0_wordCount) (maxL := 1) (ret := (some .int)) (by decide) rfl rfl ?_
  intro p e s m below meth c A hx hb hml hr hts hown hlocks hN hA hK hP hD hS ls hl
  have hown : s.vm.findClass RX0 = some m.cls := hown
  have hl : lv_has ls 1 [(0, .ref a)] := hl
  have fl20 := hts (.fieldLink RX0 20 "EchoPaysRent$Canyon" "words" "LEchoPaysRent$Row;") (by decide +kernel)
  have inX0 : ∀ w ∈ wsX00, w ∈ wsX0_wordCount := by decide +kernel
  refine lv_aload_n hx hb dX0_wordCount_0 rfl (lv_at hl 0 rfl) ?_
  refine va_get (D := D) (ci := 0) (v := .ref b2) (C := RX0) (T := TX0) (N := 6) hx hb hts inX0 hown hK hP 0 rfl rfl 1 (by decide) fl20 (fun _ h9 => h9) rfl dX0_wordCount_1 ?_
  refine k_V (q := (RX1, TX1, 2)) (ci := 1) (As := []) (wr := [(a, eCan b1 b2 sp he air sn)]) ⟨hx, hb, hml, hown, hts⟩ (c_X1_size l D cI cC b2 c2 24 wd (3 * nw)) (cwV 0 hts gX0_wordCount_X1_size rfl rfl rfl (by decide +kernel) ⟨Nat.le_of_ble_eq_true rfl, Nat.le_of_ble_eq_true rfl⟩) rfl hl.1 rfl (Nat.le_of_ble_eq_true rfl) dX0_wordCount_4 ⟨Nat.zero_le _, Nat.zero_le _⟩ hN hK hP hD hS hA rfl (q0 := 1) rfl [1, 2] [0] rfl rfl ⟨rfl, rfl, by decide⟩ (fun r1 u H locs w2 hP hD hS => ?_)
  obtain rfl : r1 = (nI (3 * nw)) := w2
  refine lv_iconst (v := (nI 3)) hx hb dX0_wordCount_7 (by decide) ?_
  refine x_idiv hx hb dX0_wordCount_8 (by omega) (by omega) (by omega) ?_
  refine x_top (show nI ((3 * nw) / 3) = nI nw from congrArg nI (by omega)) ?_
  exact x_iret hx hb hr hlocks dX0_wordCount_9 rfl (w1 := fun (_ : Unit) => [(a, eCan b1 b2 sp he air sn), (b2, eRow c2 (3 * nw)), (c2, eArr cI 24 wd)]) () rfl hK hP hD hS

set_option maxRecDepth 100000 in
set_option maxHeartbeats 4000000 in
theorem c_X0_cliffPart (l : Launch) (D : va_G) (cI cC : ClassId) (a : Nat) (b1 : Nat) (b2 : Nat) (sp : Nat) (he : Nat) (air : Nat) (sn : Nat) (c1 : Nat) (cl : Nat → Nat) (nc : Nat) (hnc : nc ≤ 4) (f : Nat) (part : Nat) (hf : f < nc) (hpa : part < 3) : mtI l D cI cC yX0_cliffPart wsX0_cliffPart ({ frames := 1, cells := 0, slots := 0, locals := 21 }) [.ref a, .int (nI f), .int (nI part)] [(a, eCan b1 b2 sp he air sn), (b1, eRow c1 (3 * nc)), (c1, eArr cI 12 cl)] (fun (r : Int32) (_ : Unit) => r = (nI (cl (3 * f + part)))) (fun (_ : Unit) => [(a, eCan b1 b2 sp he air sn), (b1, eRow c1 (3 * nc)), (c1, eArr cI 12 cl)]) := by
  refine mtI_of (cc := cX0_cliffPart) (maxL := 3) (ret := (some .int)) (by decide) rfl rfl ?_
  intro p e s m below meth c A hx hb hml hr hts hown hlocks hN hA hK hP hD hS ls hl
  have hown : s.vm.findClass RX0 = some m.cls := hown
  have hl : lv_has ls 3 [(0, .ref a), (1, .int (nI f)), (2, .int (nI part))] := hl
  have fl14 := hts (.fieldLink RX0 14 "EchoPaysRent$Canyon" "cliffs" "LEchoPaysRent$Row;") (by decide +kernel)
  have inX0 : ∀ w ∈ wsX00, w ∈ wsX0_cliffPart := by decide +kernel
  refine lv_aload_n hx hb dX0_cliffPart_0 rfl (lv_at hl 0 rfl) ?_
  refine va_get (D := D) (ci := 0) (v := .ref b1) (C := RX0) (T := TX0) (N := 6) hx hb hts inX0 hown hK hP 0 rfl rfl 0 (by decide) fl14 (fun _ h9 => h9) rfl dX0_cliffPart_1 ?_
  refine lv_iconst (v := (nI 3)) hx hb dX0_cliffPart_4 (by decide) ?_
  refine lv_iload_n hx hb dX0_cliffPart_5 rfl (lv_at hl 1 rfl) ?_
  refine x_imul hx hb dX0_cliffPart_6 ?_
  refine lv_iload_n hx hb dX0_cliffPart_7 rfl (lv_at hl 2 rfl) ?_
  refine x_iadd hx hb dX0_cliffPart_8 ?_
  refine k_V (q := (RX1, TX1, 2)) (ci := 1) (As := [.int (nI (3 * f + part))]) (wr := [(a, eCan b1 b2 sp he air sn)]) ⟨hx, hb, hml, hown, hts⟩ (c_X1_at_lt l D cI cC b1 c1 12 cl (3 * nc) (3 * f + part) (by omega) (by omega) (by omega)) (cwV 1 hts gX0_cliffPart_X1_at rfl rfl rfl (by decide +kernel) ⟨Nat.le_of_ble_eq_true rfl, Nat.le_of_ble_eq_true rfl⟩) rfl hl.1 rfl (Nat.le_of_ble_eq_true rfl) dX0_cliffPart_9 ⟨Nat.zero_le _, Nat.zero_le _⟩ hN hK hP hD hS hA rfl (q0 := 1) rfl [1, 2] [0] rfl rfl ⟨rfl, rfl, by decide⟩ (fun r1 u H locs w2 hP hD hS => ?_)
  obtain rfl : r1 = (nI (cl (3 * f + part))) := w2
  exact x_iret hx hb hr hlocks dX0_cliffPart_12 rfl (w1 := fun (_ : Unit) => [(a, eCan b1 b2 sp he air sn), (b1, eRow c1 (3 * nc)), (c1, eArr cI 12 cl)]) () rfl hK hP hD hS

set_option maxRecDepth 100000 in
set_option maxHeartbeats 4000000 in
theorem c_X0_wordPart (l : Launch) (D : va_G) (cI cC : ClassId) (a : Nat) (b1 : Nat) (b2 : Nat) (sp : Nat) (he : Nat) (air : Nat) (sn : Nat) (c2 : Nat) (wd : Nat → Nat) (nw : Nat) (hnw : nw ≤ 8) (f : Nat) (part : Nat) (hf : f < nw) (hpa : part < 3) : mtI l D cI cC yX0_wordPart wsX0_wordPart ({ frames := 1, cells := 0, slots := 0, locals := 21 }) [.ref a, .int (nI f), .int (nI part)] [(a, eCan b1 b2 sp he air sn), (b2, eRow c2 (3 * nw)), (c2, eArr cI 24 wd)] (fun (r : Int32) (_ : Unit) => r = (nI (wd (3 * f + part)))) (fun (_ : Unit) => [(a, eCan b1 b2 sp he air sn), (b2, eRow c2 (3 * nw)), (c2, eArr cI 24 wd)]) := by
  refine mtI_of (cc := cX0_wordPart) (maxL := 3) (ret := (some .int)) (by decide) rfl rfl ?_
  intro p e s m below meth c A hx hb hml hr hts hown hlocks hN hA hK hP hD hS ls hl
  have hown : s.vm.findClass RX0 = some m.cls := hown
  have hl : lv_has ls 3 [(0, .ref a), (1, .int (nI f)), (2, .int (nI part))] := hl
  have fl20 := hts (.fieldLink RX0 20 "EchoPaysRent$Canyon" "words" "LEchoPaysRent$Row;") (by decide +kernel)
  have inX0 : ∀ w ∈ wsX00, w ∈ wsX0_wordPart := by decide +kernel
  refine lv_aload_n hx hb dX0_wordPart_0 rfl (lv_at hl 0 rfl) ?_
  refine va_get (D := D) (ci := 0) (v := .ref b2) (C := RX0) (T := TX0) (N := 6) hx hb hts inX0 hown hK hP 0 rfl rfl 1 (by decide) fl20 (fun _ h9 => h9) rfl dX0_wordPart_1 ?_
  refine lv_iconst (v := (nI 3)) hx hb dX0_wordPart_4 (by decide) ?_
  refine lv_iload_n hx hb dX0_wordPart_5 rfl (lv_at hl 1 rfl) ?_
  refine x_imul hx hb dX0_wordPart_6 ?_
  refine lv_iload_n hx hb dX0_wordPart_7 rfl (lv_at hl 2 rfl) ?_
  refine x_iadd hx hb dX0_wordPart_8 ?_
  refine k_V (q := (RX1, TX1, 2)) (ci := 1) (As := [.int (nI (3 * f + part))]) (wr := [(a, eCan b1 b2 sp he air sn)]) ⟨hx, hb, hml, hown, hts⟩ (c_X1_at_lt l D cI cC b2 c2 24 wd (3 * nw) (3 * f + part) (by omega) (by omega) (by omega)) (cwV 1 hts gX0_wordPart_X1_at rfl rfl rfl (by decide +kernel) ⟨Nat.le_of_ble_eq_true rfl, Nat.le_of_ble_eq_true rfl⟩) rfl hl.1 rfl (Nat.le_of_ble_eq_true rfl) dX0_wordPart_9 ⟨Nat.zero_le _, Nat.zero_le _⟩ hN hK hP hD hS hA rfl (q0 := 1) rfl [1, 2] [0] rfl rfl ⟨rfl, rfl, by decide⟩ (fun r1 u H locs w2 hP hD hS => ?_)
  obtain rfl : r1 = (nI (wd (3 * f + part))) := w2
  exact x_iret hx hb hr hlocks dX0_wordPart_12 rfl (w1 := fun (_ : Unit) => [(a, eCan b1 b2 sp he air sn), (b2, eRow c2 (3 * nw)), (c2, eArr cI 24 wd)]) () rfl hK hP hD hS

set_option maxRecDepth 100000 in
set_option maxHeartbeats 4000000 in
theorem c_X0_allCliffs (l : Launch) (D : va_G) (cI cC : ClassId) (a : Nat) (b1 : Nat) (b2 : Nat) (sp : Nat) (he : Nat) (air : Nat) (sn : Nat) (c1 : Nat) (cl : Nat → Nat) (nc : Nat) (hnc : nc ≤ 4) : mtI l D cI cC yX0_allCliffs wsX0_allCliffs ({ frames := 2, cells := 0, slots := 0, locals := 40 }) [.ref a] [(a, eCan b1 b2 sp he air sn), (b1, eRow c1 (3 * nc)), (c1, eArr cI 12 cl)] (fun (r : Int32) (_ : Unit) => r = (nI (2 ^ nc - 1))) (fun (_ : Unit) => [(a, eCan b1 b2 sp he air sn), (b1, eRow c1 (3 * nc)), (c1, eArr cI 12 cl)]) := by
  refine mtI_of (cc := cX0_allCliffs) (maxL := 1) (ret := (some .int)) (by decide) rfl rfl ?_
  intro p e s m below meth c A hx hb hml hr hts hown hlocks hN hA hK hP hD hS ls hl
  have hown : s.vm.findClass RX0 = some m.cls := hown
  have hl : lv_has ls 1 [(0, .ref a)] := hl
  refine lv_iconst (v := (nI 1)) hx hb dX0_allCliffs_0 (by decide) ?_
  refine lv_aload_n hx hb dX0_allCliffs_1 rfl (lv_at hl 0 rfl) ?_
  refine k_V (q := (RX0, TX0, 6)) (ci := 0) (As := []) (wr := []) ⟨hx, hb, hml, hown, hts⟩ (c_X0_cliffCount l D cI cC a b1 b2 sp he air sn c1 cl nc (by omega)) (cwV 0 hts gX0_allCliffs_X0_cliffCount rfl rfl rfl (by decide +kernel) ⟨Nat.le_of_ble_eq_true rfl, Nat.le_of_ble_eq_true rfl⟩) rfl hl.1 rfl (Nat.le_of_ble_eq_true rfl) dX0_allCliffs_2 ⟨Nat.zero_le _, Nat.zero_le _⟩ hN hK hP hD hS hA rfl (q0 := 0) rfl [0, 1, 2] [] rfl rfl ⟨rfl, rfl, by decide⟩ (fun r1 u H locs w2 hP hD hS => ?_)
  obtain rfl : r1 = (nI nc) := w2
  refine x_shl1 hx hb dX0_allCliffs_5 (by omega) ?_
  refine lv_iconst (v := (nI 1)) hx hb dX0_allCliffs_6 (by decide) ?_
  refine x_isub hx hb dX0_allCliffs_7 (Nat.one_le_two_pow) ?_
  exact x_iret hx hb hr hlocks dX0_allCliffs_8 rfl (w1 := fun (_ : Unit) => [(a, eCan b1 b2 sp he air sn), (b1, eRow c1 (3 * nc)), (c1, eArr cI 12 cl)]) () rfl hK hP hD hS

set_option maxRecDepth 100000 in
set_option maxHeartbeats 4000000 in
theorem c_X0_allWords (l : Launch) (D : va_G) (cI cC : ClassId) (a : Nat) (b1 : Nat) (b2 : Nat) (sp : Nat) (he : Nat) (air : Nat) (sn : Nat) (c2 : Nat) (wd : Nat → Nat) (nw : Nat) (hnw : nw ≤ 8) : mtI l D cI cC yX0_allWords wsX0_allWords ({ frames := 2, cells := 0, slots := 0, locals := 40 }) [.ref a] [(a, eCan b1 b2 sp he air sn), (b2, eRow c2 (3 * nw)), (c2, eArr cI 24 wd)] (fun (r : Int32) (_ : Unit) => r = (nI (2 ^ nw - 1))) (fun (_ : Unit) => [(a, eCan b1 b2 sp he air sn), (b2, eRow c2 (3 * nw)), (c2, eArr cI 24 wd)]) := by
  refine mtI_of (cc := cX0_allWords) (maxL := 1) (ret := (some .int)) (by decide) rfl rfl ?_
  intro p e s m below meth c A hx hb hml hr hts hown hlocks hN hA hK hP hD hS ls hl
  have hown : s.vm.findClass RX0 = some m.cls := hown
  have hl : lv_has ls 1 [(0, .ref a)] := hl
  refine lv_iconst (v := (nI 1)) hx hb dX0_allWords_0 (by decide) ?_
  refine lv_aload_n hx hb dX0_allWords_1 rfl (lv_at hl 0 rfl) ?_
  refine k_V (q := (RX0, TX0, 6)) (ci := 0) (As := []) (wr := []) ⟨hx, hb, hml, hown, hts⟩ (c_X0_wordCount l D cI cC a b1 b2 sp he air sn c2 wd nw (by omega)) (cwV 0 hts gX0_allWords_X0_wordCount rfl rfl rfl (by decide +kernel) ⟨Nat.le_of_ble_eq_true rfl, Nat.le_of_ble_eq_true rfl⟩) rfl hl.1 rfl (Nat.le_of_ble_eq_true rfl) dX0_allWords_2 ⟨Nat.zero_le _, Nat.zero_le _⟩ hN hK hP hD hS hA rfl (q0 := 0) rfl [0, 1, 2] [] rfl rfl ⟨rfl, rfl, by decide⟩ (fun r1 u H locs w2 hP hD hS => ?_)
  obtain rfl : r1 = (nI nw) := w2
  refine x_shl1 hx hb dX0_allWords_5 (by omega) ?_
  refine lv_iconst (v := (nI 1)) hx hb dX0_allWords_6 (by decide) ?_
  refine x_isub hx hb dX0_allWords_7 (Nat.one_le_two_pow) ?_
  exact x_iret hx hb hr hlocks dX0_allWords_8 rfl (w1 := fun (_ : Unit) => [(a, eCan b1 b2 sp he air sn), (b2, eRow c2 (3 * nw)), (c2, eArr cI 24 wd)]) () rfl hK hP hD hS

set_option maxRecDepth 100000 in
set_option maxHeartbeats 4000000 in
theorem c_X0_hasSnow (l : Launch) (D : va_G) (cI cC : ClassId) (a : Nat) (b1 : Nat) (b2 : Nat) (sp : Nat) (he : Nat) (air : Nat) (sn : Nat) (f : Nat) (hf : f < 31) (hsn : sn < 2147483648) : mtI l D cI cC yX0_hasSnow wsX0_hasSnow ({ frames := 0, cells := 0, slots := 0, locals := 0 }) [.ref a, .int (nI f)] [(a, eCan b1 b2 sp he air sn)] (fun (r : Int32) (_ : Unit) => (r = (nI 1) ∧ sn / 2 ^ f % 2 = 1) ∨ (r = (nI 0) ∧ ¬ sn / 2 ^ f % 2 = 1)) (fun (_ : Unit) => [(a, eCan b1 b2 sp he air sn)]) := by
  refine mtI_of (cc := cX0_hasSnow) (maxL := 2) (ret := (some .boolean)) (by decide) rfl rfl ?_
  intro p e s m below meth c A hx hb hml hr hts hown hlocks hN hA hK hP hD hS ls hl
  have hown : s.vm.findClass RX0 = some m.cls := hown
  have hl : lv_has ls 2 [(0, .ref a), (1, .int (nI f))] := hl
  have fl39 := hts (.fieldLink RX0 39 "EchoPaysRent$Canyon" "snowSet" "I") (by decide +kernel)
  have inX0 : ∀ w ∈ wsX00, w ∈ wsX0_hasSnow := by decide +kernel
  refine lv_aload_n hx hb dX0_hasSnow_0 rfl (lv_at hl 0 rfl) ?_
  refine va_get (D := D) (ci := 0) (v := .int (nI sn)) (C := RX0) (T := TX0) (N := 6) hx hb hts inX0 hown hK hP 0 rfl rfl 5 (by decide) fl39 (fun _ h9 => h9) rfl dX0_hasSnow_1 ?_
  refine lv_iload_n hx hb dX0_hasSnow_4 rfl (lv_at hl 1 rfl) ?_
  refine x_ishr hx hb dX0_hasSnow_5 (by omega) (by omega) ?_
  refine lv_iconst (v := (nI 1)) hx hb dX0_hasSnow_6 (by decide) ?_
  refine x_iand1 hx hb dX0_hasSnow_7 ?_
  refine lv_iconst (v := (nI 1)) hx hb dX0_hasSnow_8 (by decide) ?_
  refine x_icmp_ne (tgt := 16) hx hb dX0_hasSnow_9 (by decide) (by omega) (by omega) (fun h1 => ?_) (fun h1 => ?_)
  · refine lv_iconst (v := (nI 0)) hx hb dX0_hasSnow_16 (by decide) ?_
    exact x_iret hx hb hr hlocks dX0_hasSnow_17 rfl (w1 := fun (_ : Unit) => [(a, eCan b1 b2 sp he air sn)]) () (Or.inr ⟨rfl, (by omega)⟩) hK hP hD hS
  · refine lv_iconst (v := (nI 1)) hx hb dX0_hasSnow_12 (by decide) ?_
    refine lv_goto (tgt := 17) hx hb dX0_hasSnow_13 (by decide) ?_
    exact x_iret hx hb hr hlocks dX0_hasSnow_17 rfl (w1 := fun (_ : Unit) => [(a, eCan b1 b2 sp he air sn)]) () (Or.inl ⟨rfl, (by omega)⟩) hK hP hD hS

set_option maxRecDepth 100000 in
set_option maxHeartbeats 4000000 in
theorem c_X0_empty (l : Launch) (D : va_G) (cI cC : ClassId) (a : Nat) (b1 : Nat) (c1 : Nat) (b2 : Nat) (c2 : Nat) (cl : Nat → Nat) (wd : Nat → Nat) (sp : Nat) (he : Nat) (air : Nat) (sn : Nat) (kc : Nat) (kw : Nat) : mtV l D cI cC yX0_empty wsX0_empty ({ frames := 1, cells := 0, slots := 0, locals := 20 }) [.ref a] [(a, eCan b1 b2 sp he air sn), (b1, eRow c1 kc), (c1, eArr cI 12 cl), (b2, eRow c2 kw), (c2, eArr cI 24 wd)] (fun (_ : Unit) => True) (fun (_ : Unit) => [(a, eCan b1 b2 0 10 1 0), (b1, eRow c1 (3 * 0)), (c1, eArr cI 12 cl), (b2, eRow c2 (3 * 0)), (c2, eArr cI 24 wd)]) := by
  refine mtV_of (cc := cX0_empty) (maxL := 1) (ret := none) (by decide) rfl rfl ?_
  intro p e s m below meth c A hx hb hml hr hts hown hlocks hN hA hK hP hD hS ls hl
  have hown : s.vm.findClass RX0 = some m.cls := hown
  have hl : lv_has ls 1 [(0, .ref a)] := hl
  have fl14 := hts (.fieldLink RX0 14 "EchoPaysRent$Canyon" "cliffs" "LEchoPaysRent$Row;") (by decide +kernel)
  have inX0 : ∀ w ∈ wsX00, w ∈ wsX0_empty := by decide +kernel
  have fl20 := hts (.fieldLink RX0 20 "EchoPaysRent$Canyon" "words" "LEchoPaysRent$Row;") (by decide +kernel)
  have fl29 := hts (.fieldLink RX0 29 "EchoPaysRent$Canyon" "speaker" "I") (by decide +kernel)
  have fl33 := hts (.fieldLink RX0 33 "EchoPaysRent$Canyon" "hearer" "I") (by decide +kernel)
  have fl36 := hts (.fieldLink RX0 36 "EchoPaysRent$Canyon" "air" "I") (by decide +kernel)
  have fl39 := hts (.fieldLink RX0 39 "EchoPaysRent$Canyon" "snowSet" "I") (by decide +kernel)
  refine lv_aload_n hx hb dX0_empty_0 rfl (lv_at hl 0 rfl) ?_
  refine va_get (D := D) (ci := 0) (v := .ref b1) (C := RX0) (T := TX0) (N := 6) hx hb hts inX0 hown hK hP 0 rfl rfl 0 (by decide) fl14 (fun _ h9 => h9) rfl dX0_empty_1 ?_
  refine k_Vv (q := (RX1, TX1, 2)) (ci := 1) (As := []) (wr := [(a, eCan b1 b2 sp he air sn), (b2, eRow c2 kw), (c2, eArr cI 24 wd)]) ⟨hx, hb, hml, hown, hts⟩ (c_X1_drop l D cI cC b1 c1 12 cl kc) (cwV 0 hts gX0_empty_X1_drop rfl rfl rfl (by decide +kernel) ⟨Nat.le_of_ble_eq_true rfl, Nat.le_of_ble_eq_true rfl⟩) rfl hl.1 rfl (Nat.le_of_ble_eq_true rfl) dX0_empty_4 ⟨Nat.zero_le _, Nat.zero_le _⟩ hN hK hP hD hS hA rfl (q0 := 1) rfl [1, 2] [0, 3, 4] rfl rfl ⟨rfl, rfl, by decide⟩ (fun u H locs w2 hP hD hS => ?_)
  refine lv_aload_n hx hb dX0_empty_7 rfl (lv_at hl 0 rfl) ?_
  refine va_get (D := D) (ci := 0) (v := .ref b2) (C := RX0) (T := TX0) (N := 6) hx hb hts inX0 hown hK hP 0 rfl rfl 1 (by decide) fl20 (fun _ h9 => h9) rfl dX0_empty_8 ?_
  refine k_Vv (q := (RX1, TX1, 2)) (ci := 1) (As := []) (wr := [(a, eCan b1 b2 sp he air sn), (b1, eRow c1 0), (c1, eArr cI 12 cl)]) ⟨hx, hb, hml, hown, hts⟩ (c_X1_drop l D cI cC b2 c2 24 wd kw) (cwV 0 hts gX0_empty_X1_drop rfl rfl rfl (by decide +kernel) ⟨Nat.le_of_ble_eq_true rfl, Nat.le_of_ble_eq_true rfl⟩) rfl hl.1 rfl (Nat.le_of_ble_eq_true rfl) dX0_empty_11 ⟨Nat.zero_le _, Nat.zero_le _⟩ hN hK hP hD hS hA rfl (q0 := 1) rfl [1, 2] [0, 3, 4] rfl rfl ⟨rfl, rfl, by decide⟩ (fun u H locs w4 hP hD hS => ?_)
  refine lv_aload_n hx hb dX0_empty_14 rfl (lv_at hl 0 rfl) ?_
  refine lv_iconst (v := (nI 0)) hx hb dX0_empty_15 (by decide) ?_
  refine va_put (D := D) (ci := 0) (v := .int (nI 0)) (ty := .int) (C := RX0) (T := TX0) (N := 6) hx hb hts inX0 tyX0 tyX0_ok nmX0 hown hK hP hD hS 0 rfl rfl 2 (by decide) fl29 (fun _ h9 => h9) rfl (by decide +kernel) rfl rfl (Nat.le_of_ble_eq_true rfl) dX0_empty_16 (fun H locs hP hD hS => ?_)
  have hP : va_P D vwCl [(a, eCan b1 b2 0 he air sn), (b1, eRow c1 0), (c1, eArr cI 12 cl), (b2, eRow c2 0), (c2, eArr cI 24 wd)] H := hP
  have hD : va_D A [(a, eCan b1 b2 0 he air sn), (b1, eRow c1 0), (c1, eArr cI 12 cl), (b2, eRow c2 0), (c2, eArr cI 24 wd)] := hD
  refine lv_aload_n hx hb dX0_empty_19 rfl (lv_at hl 0 rfl) ?_
  refine lv_bipush (v := (nI 10)) hx hb dX0_empty_20 (by decide) ?_
  refine va_put (D := D) (ci := 0) (v := .int (nI 10)) (ty := .int) (C := RX0) (T := TX0) (N := 6) hx hb hts inX0 tyX0 tyX0_ok nmX0 hown hK hP hD hS 0 rfl rfl 3 (by decide) fl33 (fun _ h9 => h9) rfl (by decide +kernel) rfl rfl (Nat.le_of_ble_eq_true rfl) dX0_empty_22 (fun H locs hP hD hS => ?_)
  have hP : va_P D vwCl [(a, eCan b1 b2 0 10 air sn), (b1, eRow c1 0), (c1, eArr cI 12 cl), (b2, eRow c2 0), (c2, eArr cI 24 wd)] H := hP
  have hD : va_D A [(a, eCan b1 b2 0 10 air sn), (b1, eRow c1 0), (c1, eArr cI 12 cl), (b2, eRow c2 0), (c2, eArr cI 24 wd)] := hD
  refine lv_aload_n hx hb dX0_empty_25 rfl (lv_at hl 0 rfl) ?_
  refine lv_iconst (v := (nI 1)) hx hb dX0_empty_26 (by decide) ?_
  refine va_put (D := D) (ci := 0) (v := .int (nI 1)) (ty := .int) (C := RX0) (T := TX0) (N := 6) hx hb hts inX0 tyX0 tyX0_ok nmX0 hown hK hP hD hS 0 rfl rfl 4 (by decide) fl36 (fun _ h9 => h9) rfl (by decide +kernel) rfl rfl (Nat.le_of_ble_eq_true rfl) dX0_empty_27 (fun H locs hP hD hS => ?_)
  have hP : va_P D vwCl [(a, eCan b1 b2 0 10 1 sn), (b1, eRow c1 0), (c1, eArr cI 12 cl), (b2, eRow c2 0), (c2, eArr cI 24 wd)] H := hP
  have hD : va_D A [(a, eCan b1 b2 0 10 1 sn), (b1, eRow c1 0), (c1, eArr cI 12 cl), (b2, eRow c2 0), (c2, eArr cI 24 wd)] := hD
  refine lv_aload_n hx hb dX0_empty_30 rfl (lv_at hl 0 rfl) ?_
  refine lv_iconst (v := (nI 0)) hx hb dX0_empty_31 (by decide) ?_
  refine va_put (D := D) (ci := 0) (v := .int (nI 0)) (ty := .int) (C := RX0) (T := TX0) (N := 6) hx hb hts inX0 tyX0 tyX0_ok nmX0 hown hK hP hD hS 0 rfl rfl 5 (by decide) fl39 (fun _ h9 => h9) rfl (by decide +kernel) rfl rfl (Nat.le_of_ble_eq_true rfl) dX0_empty_32 (fun H locs hP hD hS => ?_)
  have hP : va_P D vwCl [(a, eCan b1 b2 0 10 1 0), (b1, eRow c1 0), (c1, eArr cI 12 cl), (b2, eRow c2 0), (c2, eArr cI 24 wd)] H := hP
  have hD : va_D A [(a, eCan b1 b2 0 10 1 0), (b1, eRow c1 0), (c1, eArr cI 12 cl), (b2, eRow c2 0), (c2, eArr cI 24 wd)] := hD
  exact x_vret hx hb hr hlocks dX0_empty_35 (w1 := fun (_ : Unit) => [(a, eCan b1 b2 0 10 1 0), (b1, eRow c1 (3 * 0)), (c1, eArr cI 12 cl), (b2, eRow c2 (3 * 0)), (c2, eArr cI 24 wd)]) () trivial hK hP hD hS

set_option maxRecDepth 100000 in
set_option maxHeartbeats 4000000 in
theorem c_X0_copy (l : Launch) (D : va_G) (cI cC : ClassId) (ap : Nat) (b1p : Nat) (c1p : Nat) (b2p : Nat) (c2p : Nat) (clp : Nat → Nat) (ncp : Nat) (wdp : Nat → Nat) (nwp : Nat) (spp : Nat) (hep : Nat) (airp : Nat) (snp : Nat) (aq : Nat) (b1q : Nat) (c1q : Nat) (b2q : Nat) (c2q : Nat) (clq : Nat → Nat) (ncq : Nat) (wdq : Nat → Nat) (nwq : Nat) (spq : Nat) (heq : Nat) (airq : Nat) (snq : Nat) (h1 : ncp ≤ 4) (h2 : nwp ≤ 8) (h3 : ncq ≤ 4) (h4 : nwq ≤ 8) : mtV l D cI cC yX0_copy wsX0_copy ({ frames := 2, cells := 0, slots := 0, locals := 43 }) [.ref ap, .ref aq] [(ap, eCan b1p b2p spp hep airp snp), (b1p, eRow c1p (3 * ncp)), (c1p, eArr cI 12 clp), (b2p, eRow c2p (3 * nwp)), (c2p, eArr cI 24 wdp), (aq, eCan b1q b2q spq heq airq snq), (b1q, eRow c1q (3 * ncq)), (c1q, eArr cI 12 clq), (b2q, eRow c2q (3 * nwq)), (c2q, eArr cI 24 wdq)] (fun (_ : Unit) => True) (fun (_ : Unit) => [(ap, eCan b1p b2p spq heq airq snq), (b1p, eRow c1p (3 * ncq)), (c1p, eArr cI 12 (cpN clp clq (3 * ncq))), (b2p, eRow c2p (3 * nwq)), (c2p, eArr cI 24 (cpN wdp wdq (3 * nwq))), (aq, eCan b1q b2q spq heq airq snq), (b1q, eRow c1q (3 * ncq)), (c1q, eArr cI 12 clq), (b2q, eRow c2q (3 * nwq)), (c2q, eArr cI 24 wdq)]) := by
  refine mtV_of (cc := cX0_copy) (maxL := 2) (ret := none) (by decide) rfl rfl ?_
  intro p e s m below meth c A hx hb hml hr hts hown hlocks hN hA hK hP hD hS ls hl
  have hown : s.vm.findClass RX0 = some m.cls := hown
  have hl : lv_has ls 2 [(0, .ref ap), (1, .ref aq)] := hl
  have fl14 := hts (.fieldLink RX0 14 "EchoPaysRent$Canyon" "cliffs" "LEchoPaysRent$Row;") (by decide +kernel)
  have inX0 : ∀ w ∈ wsX00, w ∈ wsX0_copy := by decide +kernel
  have fl20 := hts (.fieldLink RX0 20 "EchoPaysRent$Canyon" "words" "LEchoPaysRent$Row;") (by decide +kernel)
  have fl29 := hts (.fieldLink RX0 29 "EchoPaysRent$Canyon" "speaker" "I") (by decide +kernel)
  have fl33 := hts (.fieldLink RX0 33 "EchoPaysRent$Canyon" "hearer" "I") (by decide +kernel)
  have fl36 := hts (.fieldLink RX0 36 "EchoPaysRent$Canyon" "air" "I") (by decide +kernel)
  have fl39 := hts (.fieldLink RX0 39 "EchoPaysRent$Canyon" "snowSet" "I") (by decide +kernel)
  refine lv_aload_n hx hb dX0_copy_0 rfl (lv_at hl 0 rfl) ?_
  refine va_get (D := D) (ci := 0) (v := .ref b1p) (C := RX0) (T := TX0) (N := 6) hx hb hts inX0 hown hK hP 0 rfl rfl 0 (by decide) fl14 (fun _ h9 => h9) rfl dX0_copy_1 ?_
  refine lv_aload_n hx hb dX0_copy_4 rfl (lv_at hl 1 rfl) ?_
  refine va_get (D := D) (ci := 0) (v := .ref b1q) (C := RX0) (T := TX0) (N := 6) hx hb hts inX0 hown hK hP 5 rfl rfl 0 (by decide) fl14 (fun _ h9 => h9) rfl dX0_copy_5 ?_
  refine k_Vv (q := (RX1, TX1, 2)) (ci := 1) (As := [.ref b1q]) (wr := [(ap, eCan b1p b2p spp hep airp snp), (b2p, eRow c2p (3 * nwp)), (c2p, eArr cI 24 wdp), (aq, eCan b1q b2q spq heq airq snq), (b2q, eRow c2q (3 * nwq)), (c2q, eArr cI 24 wdq)]) ⟨hx, hb, hml, hown, hts⟩ (c_X1_copy l D cI cC b1p c1p 12 clp (3 * ncp) b1q c1q 12 clq (3 * ncq) (by omega) (by omega) (by omega) (by omega)) (cwV 1 hts gX0_copy_X1_copy rfl rfl rfl (by decide +kernel) ⟨Nat.le_of_ble_eq_true rfl, Nat.le_of_ble_eq_true rfl⟩) rfl hl.1 rfl (Nat.le_of_ble_eq_true rfl) dX0_copy_8 ⟨Nat.zero_le _, Nat.zero_le _⟩ hN hK hP hD hS hA rfl (q0 := 1) rfl [1, 2, 6, 7] [0, 3, 4, 5, 8, 9] rfl rfl ⟨rfl, rfl, by decide⟩ (fun u H locs w2 hP hD hS => ?_)
  refine lv_aload_n hx hb dX0_copy_11 rfl (lv_at hl 0 rfl) ?_
  refine va_get (D := D) (ci := 0) (v := .ref b2p) (C := RX0) (T := TX0) (N := 6) hx hb hts inX0 hown hK hP 0 rfl rfl 1 (by decide) fl20 (fun _ h9 => h9) rfl dX0_copy_12 ?_
  refine lv_aload_n hx hb dX0_copy_15 rfl (lv_at hl 1 rfl) ?_
  refine va_get (D := D) (ci := 0) (v := .ref b2q) (C := RX0) (T := TX0) (N := 6) hx hb hts inX0 hown hK hP 3 rfl rfl 1 (by decide) fl20 (fun _ h9 => h9) rfl dX0_copy_16 ?_
  refine k_Vv (q := (RX1, TX1, 2)) (ci := 1) (As := [.ref b2q]) (wr := [(ap, eCan b1p b2p spp hep airp snp), (aq, eCan b1q b2q spq heq airq snq), (b1p, eRow c1p (3 * ncq)), (c1p, eArr cI 12 (cpN clp clq (3 * ncq))), (b1q, eRow c1q (3 * ncq)), (c1q, eArr cI 12 clq)]) ⟨hx, hb, hml, hown, hts⟩ (c_X1_copy l D cI cC b2p c2p 24 wdp (3 * nwp) b2q c2q 24 wdq (3 * nwq) (by omega) (by omega) (by omega) (by omega)) (cwV 1 hts gX0_copy_X1_copy rfl rfl rfl (by decide +kernel) ⟨Nat.le_of_ble_eq_true rfl, Nat.le_of_ble_eq_true rfl⟩) rfl hl.1 rfl (Nat.le_of_ble_eq_true rfl) dX0_copy_19 ⟨Nat.zero_le _, Nat.zero_le _⟩ hN hK hP hD hS hA rfl (q0 := 1) rfl [1, 2, 4, 5] [0, 3, 6, 7, 8, 9] rfl rfl ⟨rfl, rfl, by decide⟩ (fun u H locs w4 hP hD hS => ?_)
  refine lv_aload_n hx hb dX0_copy_22 rfl (lv_at hl 0 rfl) ?_
  refine lv_aload_n hx hb dX0_copy_23 rfl (lv_at hl 1 rfl) ?_
  refine va_get (D := D) (ci := 0) (v := .int (nI spq)) (C := RX0) (T := TX0) (N := 6) hx hb hts inX0 hown hK hP 1 rfl rfl 2 (by decide) fl29 (fun _ h9 => h9) rfl dX0_copy_24 ?_
  refine va_put (D := D) (ci := 0) (v := .int (nI spq)) (ty := .int) (C := RX0) (T := TX0) (N := 6) hx hb hts inX0 tyX0 tyX0_ok nmX0 hown hK hP hD hS 0 rfl rfl 2 (by decide) fl29 (fun _ h9 => h9) rfl (by decide +kernel) rfl rfl (Nat.le_of_ble_eq_true rfl) dX0_copy_27 (fun H locs hP hD hS => ?_)
  have hP : va_P D vwCl [(ap, eCan b1p b2p spq hep airp snp), (aq, eCan b1q b2q spq heq airq snq), (b1p, eRow c1p (3 * ncq)), (c1p, eArr cI 12 (cpN clp clq (3 * ncq))), (b1q, eRow c1q (3 * ncq)), (c1q, eArr cI 12 clq), (b2p, eRow c2p (3 * nwq)), (c2p, eArr cI 24 (cpN wdp wdq (3 * nwq))), (b2q, eRow c2q (3 * nwq)), (c2q, eArr cI 24 wdq)] H := hP
  have hD : va_D A [(ap, eCan b1p b2p spq hep airp snp), (aq, eCan b1q b2q spq heq airq snq), (b1p, eRow c1p (3 * ncq)), (c1p, eArr cI 12 (cpN clp clq (3 * ncq))), (b1q, eRow c1q (3 * ncq)), (c1q, eArr cI 12 clq), (b2p, eRow c2p (3 * nwq)), (c2p, eArr cI 24 (cpN wdp wdq (3 * nwq))), (b2q, eRow c2q (3 * nwq)), (c2q, eArr cI 24 wdq)] := hD
  refine lv_aload_n hx hb dX0_copy_30 rfl (lv_at hl 0 rfl) ?_
  refine lv_aload_n hx hb dX0_copy_31 rfl (lv_at hl 1 rfl) ?_
  refine va_get (D := D) (ci := 0) (v := .int (nI heq)) (C := RX0) (T := TX0) (N := 6) hx hb hts inX0 hown hK hP 1 rfl rfl 3 (by decide) fl33 (fun _ h9 => h9) rfl dX0_copy_32 ?_
  refine va_put (D := D) (ci := 0) (v := .int (nI heq)) (ty := .int) (C := RX0) (T := TX0) (N := 6) hx hb hts inX0 tyX0 tyX0_ok nmX0 hown hK hP hD hS 0 rfl rfl 3 (by decide) fl33 (fun _ h9 => h9) rfl (by decide +kernel) rfl rfl (Nat.le_of_ble_eq_true rfl) dX0_copy_35 (fun H locs hP hD hS => ?_)
  have hP : va_P D vwCl [(ap, eCan b1p b2p spq heq airp snp), (aq, eCan b1q b2q spq heq airq snq), (b1p, eRow c1p (3 * ncq)), (c1p, eArr cI 12 (cpN clp clq (3 * ncq))), (b1q, eRow c1q (3 * ncq)), (c1q, eArr cI 12 clq), (b2p, eRow c2p (3 * nwq)), (c2p, eArr cI 24 (cpN wdp wdq (3 * nwq))), (b2q, eRow c2q (3 * nwq)), (c2q, eArr cI 24 wdq)] H := hP
  have hD : va_D A [(ap, eCan b1p b2p spq heq airp snp), (aq, eCan b1q b2q spq heq airq snq), (b1p, eRow c1p (3 * ncq)), (c1p, eArr cI 12 (cpN clp clq (3 * ncq))), (b1q, eRow c1q (3 * ncq)), (c1q, eArr cI 12 clq), (b2p, eRow c2p (3 * nwq)), (c2p, eArr cI 24 (cpN wdp wdq (3 * nwq))), (b2q, eRow c2q (3 * nwq)), (c2q, eArr cI 24 wdq)] := hD
  refine lv_aload_n hx hb dX0_copy_38 rfl (lv_at hl 0 rfl) ?_
  refine lv_aload_n hx hb dX0_copy_39 rfl (lv_at hl 1 rfl) ?_
  refine va_get (D := D) (ci := 0) (v := .int (nI airq)) (C := RX0) (T := TX0) (N := 6) hx hb hts inX0 hown hK hP 1 rfl rfl 4 (by decide) fl36 (fun _ h9 => h9) rfl dX0_copy_40 ?_
  refine va_put (D := D) (ci := 0) (v := .int (nI airq)) (ty := .int) (C := RX0) (T := TX0) (N := 6) hx hb hts inX0 tyX0 tyX0_ok nmX0 hown hK hP hD hS 0 rfl rfl 4 (by decide) fl36 (fun _ h9 => h9) rfl (by decide +kernel) rfl rfl (Nat.le_of_ble_eq_true rfl) dX0_copy_43 (fun H locs hP hD hS => ?_)
  have hP : va_P D vwCl [(ap, eCan b1p b2p spq heq airq snp), (aq, eCan b1q b2q spq heq airq snq), (b1p, eRow c1p (3 * ncq)), (c1p, eArr cI 12 (cpN clp clq (3 * ncq))), (b1q, eRow c1q (3 * ncq)), (c1q, eArr cI 12 clq), (b2p, eRow c2p (3 * nwq)), (c2p, eArr cI 24 (cpN wdp wdq (3 * nwq))), (b2q, eRow c2q (3 * nwq)), (c2q, eArr cI 24 wdq)] H := hP
  have hD : va_D A [(ap, eCan b1p b2p spq heq airq snp), (aq, eCan b1q b2q spq heq airq snq), (b1p, eRow c1p (3 * ncq)), (c1p, eArr cI 12 (cpN clp clq (3 * ncq))), (b1q, eRow c1q (3 * ncq)), (c1q, eArr cI 12 clq), (b2p, eRow c2p (3 * nwq)), (c2p, eArr cI 24 (cpN wdp wdq (3 * nwq))), (b2q, eRow c2q (3 * nwq)), (c2q, eArr cI 24 wdq)] := hD
  refine lv_aload_n hx hb dX0_copy_46 rfl (lv_at hl 0 rfl) ?_
  refine lv_aload_n hx hb dX0_copy_47 rfl (lv_at hl 1 rfl) ?_
  refine va_get (D := D) (ci := 0) (v := .int (nI snq)) (C := RX0) (T := TX0) (N := 6) hx hb hts inX0 hown hK hP 1 rfl rfl 5 (by decide) fl39 (fun _ h9 => h9) rfl dX0_copy_48 ?_
  refine va_put (D := D) (ci := 0) (v := .int (nI snq)) (ty := .int) (C := RX0) (T := TX0) (N := 6) hx hb hts inX0 tyX0 tyX0_ok nmX0 hown hK hP hD hS 0 rfl rfl 5 (by decide) fl39 (fun _ h9 => h9) rfl (by decide +kernel) rfl rfl (Nat.le_of_ble_eq_true rfl) dX0_copy_51 (fun H locs hP hD hS => ?_)
  have hP : va_P D vwCl [(ap, eCan b1p b2p spq heq airq snq), (aq, eCan b1q b2q spq heq airq snq), (b1p, eRow c1p (3 * ncq)), (c1p, eArr cI 12 (cpN clp clq (3 * ncq))), (b1q, eRow c1q (3 * ncq)), (c1q, eArr cI 12 clq), (b2p, eRow c2p (3 * nwq)), (c2p, eArr cI 24 (cpN wdp wdq (3 * nwq))), (b2q, eRow c2q (3 * nwq)), (c2q, eArr cI 24 wdq)] H := hP
  have hD : va_D A [(ap, eCan b1p b2p spq heq airq snq), (aq, eCan b1q b2q spq heq airq snq), (b1p, eRow c1p (3 * ncq)), (c1p, eArr cI 12 (cpN clp clq (3 * ncq))), (b1q, eRow c1q (3 * ncq)), (c1q, eArr cI 12 clq), (b2p, eRow c2p (3 * nwq)), (c2p, eArr cI 24 (cpN wdp wdq (3 * nwq))), (b2q, eRow c2q (3 * nwq)), (c2q, eArr cI 24 wdq)] := hD
  exact x_vret hx hb hr hlocks dX0_copy_54 (w1 := fun (_ : Unit) => [(ap, eCan b1p b2p spq heq airq snq), (b1p, eRow c1p (3 * ncq)), (c1p, eArr cI 12 (cpN clp clq (3 * ncq))), (b2p, eRow c2p (3 * nwq)), (c2p, eArr cI 24 (cpN wdp wdq (3 * nwq))), (aq, eCan b1q b2q spq heq airq snq), (b1q, eRow c1q (3 * ncq)), (c1q, eArr cI 12 clq), (b2q, eRow c2q (3 * nwq)), (c2q, eArr cI 24 wdq)]) () trivial hK (hP.sub [0, 2, 3, 6, 7, 1, 4, 5, 8, 9] rfl) (hD.sub [0, 2, 3, 6, 7, 1, 4, 5, 8, 9] rfl rfl) hS

def add3 (g : Nat → Nat) (k x y z : Nat) : Nat → Nat := upN (upN (upN g k x) (k + 1) y) (k + 1 + 1) z

set_option maxRecDepth 100000 in
set_option maxHeartbeats 4000000 in
theorem c_X0_addCliff_ok (l : Launch) (D : va_G) (cI cC : ClassId) (a : Nat) (b1 : Nat) (b2 : Nat) (sp : Nat) (he : Nat) (air : Nat) (sn : Nat) (c1 : Nat) (cl : Nat → Nat) (nc : Nat) (x : Nat) (y : Nat) (z : Nat) (hc : x ≤ 40 ∧ y ≤ 9 ∧ z ≤ 3 ∧ nc < 4) : mtI l D cI cC yX0_addCliff wsX0_addCliff ({ frames := 3, cells := 0, slots := 0, locals := 64 }) [.ref a, .int (nI x), .int (nI y), .int (nI z)] [(a, eCan b1 b2 sp he air sn), (b1, eRow c1 (3 * nc)), (c1, eArr cI 12 cl)] (fun (r : Int32) (_ : Unit) => r = (nI 1)) (fun (_ : Unit) => [(a, eCan b1 b2 sp he air sn), (b1, eRow c1 (3 * (nc + 1))), (c1, eArr cI 12 (add3 cl (3 * nc) x y z))]) := by
  refine mtI_of (cc := cX0_addCliff) (maxL := 4) (ret := (some .boolean)) (by decide) rfl rfl ?_
  intro p e s m below meth c A hx hb hml hr hts hown hlocks hN hA hK hP hD hS ls hl
  have hown : s.vm.findClass RX0 = some m.cls := hown
  have hl : lv_has ls 4 [(0, .ref a), (1, .int (nI x)), (2, .int (nI y)), (3, .int (nI z))] := hl
  have fl14 := hts (.fieldLink RX0 14 "EchoPaysRent$Canyon" "cliffs" "LEchoPaysRent$Row;") (by decide +kernel)
  have inX0 : ∀ w ∈ wsX00, w ∈ wsX0_addCliff := by decide +kernel
  refine lv_iload_n hx hb dX0_addCliff_0 rfl (lv_at hl 1 rfl) ?_
  refine lv_iload_n hx hb dX0_addCliff_1 rfl (lv_at hl 2 rfl) ?_
  refine lv_iload_n hx hb dX0_addCliff_2 rfl (lv_at hl 3 rfl) ?_
  refine k_SN (As := [.int (iI (((x : Nat) : Int))), .int (iI (((y : Nat) : Int))), .int (iI (((z : Nat) : Int)))]) (wr := [(a, eCan b1 b2 sp he air sn), (b1, eRow c1 (3 * nc)), (c1, eArr cI 12 cl)]) ⟨hx, hb, hml, hown, hts⟩ (c_X6_isCliff l D cI cC (((x : Nat) : Int)) (((y : Nat) : Int)) (((z : Nat) : Int)) (by omega) (by omega) (by omega)) ⟨va_cnB 3 hts gX0_addCliff_X6_isCliff_n46 rfl rfl rfl (nzP_get hN (List.mem_of_getElem? (i := 8) rfl)) (hts (.initialized RX6) (by decide +kernel)) (by decide +kernel) ⟨Nat.le_of_ble_eq_true rfl, Nat.le_of_ble_eq_true rfl⟩, hts (.static yX6_isCliff) (by decide +kernel), trivial⟩ rfl hl.1 (by simp only [nI_iI]; rfl) (Nat.le_of_ble_eq_true rfl) dX0_addCliff_3 ⟨Nat.zero_le _, Nat.zero_le _⟩ hN hK hP hD hS hA [] [0, 1, 2] rfl rfl ⟨rfl, rfl, by decide⟩ (fun r1 u H locs w2 hP hD hS => ?_)
  obtain ⟨rfl, h3, h4, h5, h6, h7, h8⟩ | ⟨rfl, h9⟩ : (r1 = (nI 1) ∧ 0 ≤ (((x : Nat) : Int)) ∧ (((x : Nat) : Int)) ≤ 40 ∧ 0 ≤ (((y : Nat) : Int)) ∧ (((y : Nat) : Int)) ≤ 9 ∧ 0 ≤ (((z : Nat) : Int)) ∧ (((z : Nat) : Int)) ≤ 3) ∨ (r1 = (nI 0) ∧ ((((x : Nat) : Int)) < 0 ∨ 40 < (((x : Nat) : Int)) ∨ (((y : Nat) : Int)) < 0 ∨ 9 < (((y : Nat) : Int)) ∨ (((z : Nat) : Int)) < 0 ∨ 3 < (((z : Nat) : Int)))) := w2
  · refine x_if_eq (tgt := 26) hx hb dX0_addCliff_6 (by decide) (by omega) (fun h10 => False.elim (by omega)) (fun h10 => ?_)
    refine lv_aload_n hx hb dX0_addCliff_9 rfl (lv_at hl 0 rfl) ?_
    refine va_get (D := D) (ci := 0) (v := .ref b1) (C := RX0) (T := TX0) (N := 6) hx hb hts inX0 hown hK hP 0 rfl rfl 0 (by decide) fl14 (fun _ h9 => h9) rfl dX0_addCliff_10 ?_
    refine lv_iload_n hx hb dX0_addCliff_13 rfl (lv_at hl 1 rfl) ?_
    refine lv_iload_n hx hb dX0_addCliff_14 rfl (lv_at hl 2 rfl) ?_
    refine lv_iload_n hx hb dX0_addCliff_15 rfl (lv_at hl 3 rfl) ?_
    refine k_V (q := (RX1, TX1, 2)) (ci := 1) (As := [.int (nI x), .int (nI y), .int (nI z)]) (wr := [(a, eCan b1 b2 sp he air sn)]) ⟨hx, hb, hml, hown, hts⟩ (c_X1_addThree_lt l D cI cC b1 c1 12 cl (3 * nc) x y z (by omega) (by omega)) (cwV 3 hts gX0_addCliff_X1_addThree rfl rfl rfl (by decide +kernel) ⟨Nat.le_of_ble_eq_true rfl, Nat.le_of_ble_eq_true rfl⟩) rfl hl.1 rfl (Nat.le_of_ble_eq_true rfl) dX0_addCliff_16 ⟨Nat.zero_le _, Nat.zero_le _⟩ hN hK hP hD hS hA rfl (q0 := 1) rfl [1, 2] [0] rfl rfl ⟨rfl, rfl, by decide⟩ (fun r11 u H locs w12 hP hD hS => ?_)
    obtain rfl : r11 = (nI 1) := w12
    refine x_if_eq (tgt := 26) hx hb dX0_addCliff_19 (by decide) (by omega) (fun h13 => False.elim (by omega)) (fun h13 => ?_)
    have hP : va_P D vwCl [(a, eCan b1 b2 sp he air sn), (b1, eRow c1 (3 * (nc + 1))), (c1, eArr cI 12 (add3 cl (3 * nc) x y z))] H := by rw [show 3 * (nc + 1) = 3 * nc + 1 + 1 + 1 from by omega]; exact hP
    have hD : va_D A [(a, eCan b1 b2 sp he air sn), (b1, eRow c1 (3 * (nc + 1))), (c1, eArr cI 12 (add3 cl (3 * nc) x y z))] := by rw [show 3 * (nc + 1) = 3 * nc + 1 + 1 + 1 from by omega]; exact hD
    refine lv_iconst (v := (nI 1)) hx hb dX0_addCliff_22 (by decide) ?_
    refine lv_goto (tgt := 27) hx hb dX0_addCliff_23 (by decide) ?_
    exact x_iret hx hb hr hlocks dX0_addCliff_27 rfl (w1 := fun (_ : Unit) => [(a, eCan b1 b2 sp he air sn), (b1, eRow c1 (3 * (nc + 1))), (c1, eArr cI 12 (add3 cl (3 * nc) x y z))]) () rfl hK hP hD hS
  · exact False.elim (by omega)

set_option maxRecDepth 100000 in
set_option maxHeartbeats 4000000 in
theorem c_X0_addCliff_no (l : Launch) (D : va_G) (cI cC : ClassId) (a : Nat) (b1 : Nat) (b2 : Nat) (sp : Nat) (he : Nat) (air : Nat) (sn : Nat) (c1 : Nat) (cl : Nat → Nat) (nc : Nat) (x : Nat) (y : Nat) (z : Nat) (hx3 : x < 1000 ∧ y < 1000 ∧ z < 1000) (hc : 40 < x ∨ 9 < y ∨ 3 < z ∨ nc = 4) (hn4 : nc ≤ 4) : mtI l D cI cC yX0_addCliff wsX0_addCliff ({ frames := 3, cells := 0, slots := 0, locals := 64 }) [.ref a, .int (nI x), .int (nI y), .int (nI z)] [(a, eCan b1 b2 sp he air sn), (b1, eRow c1 (3 * nc)), (c1, eArr cI 12 cl)] (fun (r : Int32) (_ : Unit) => r = (nI 0)) (fun (_ : Unit) => [(a, eCan b1 b2 sp he air sn), (b1, eRow c1 (3 * nc)), (c1, eArr cI 12 cl)]) := by
  refine mtI_of (cc := cX0_addCliff) (maxL := 4) (ret := (some .boolean)) (by decide) rfl rfl ?_
  intro p e s m below meth c A hx hb hml hr hts hown hlocks hN hA hK hP hD hS ls hl
  have hown : s.vm.findClass RX0 = some m.cls := hown
  have hl : lv_has ls 4 [(0, .ref a), (1, .int (nI x)), (2, .int (nI y)), (3, .int (nI z))] := hl
  have fl14 := hts (.fieldLink RX0 14 "EchoPaysRent$Canyon" "cliffs" "LEchoPaysRent$Row;") (by decide +kernel)
  have inX0 : ∀ w ∈ wsX00, w ∈ wsX0_addCliff := by decide +kernel
  refine lv_iload_n hx hb dX0_addCliff_0 rfl (lv_at hl 1 rfl) ?_
  refine lv_iload_n hx hb dX0_addCliff_1 rfl (lv_at hl 2 rfl) ?_
  refine lv_iload_n hx hb dX0_addCliff_2 rfl (lv_at hl 3 rfl) ?_
  refine k_SN (As := [.int (iI (((x : Nat) : Int))), .int (iI (((y : Nat) : Int))), .int (iI (((z : Nat) : Int)))]) (wr := [(a, eCan b1 b2 sp he air sn), (b1, eRow c1 (3 * nc)), (c1, eArr cI 12 cl)]) ⟨hx, hb, hml, hown, hts⟩ (c_X6_isCliff l D cI cC (((x : Nat) : Int)) (((y : Nat) : Int)) (((z : Nat) : Int)) (by omega) (by omega) (by omega)) ⟨va_cnB 3 hts gX0_addCliff_X6_isCliff_n46 rfl rfl rfl (nzP_get hN (List.mem_of_getElem? (i := 8) rfl)) (hts (.initialized RX6) (by decide +kernel)) (by decide +kernel) ⟨Nat.le_of_ble_eq_true rfl, Nat.le_of_ble_eq_true rfl⟩, hts (.static yX6_isCliff) (by decide +kernel), trivial⟩ rfl hl.1 (by simp only [nI_iI]; rfl) (Nat.le_of_ble_eq_true rfl) dX0_addCliff_3 ⟨Nat.zero_le _, Nat.zero_le _⟩ hN hK hP hD hS hA [] [0, 1, 2] rfl rfl ⟨rfl, rfl, by decide⟩ (fun r1 u H locs w2 hP hD hS => ?_)
  obtain ⟨rfl, h3, h4, h5, h6, h7, h8⟩ | ⟨rfl, h9⟩ : (r1 = (nI 1) ∧ 0 ≤ (((x : Nat) : Int)) ∧ (((x : Nat) : Int)) ≤ 40 ∧ 0 ≤ (((y : Nat) : Int)) ∧ (((y : Nat) : Int)) ≤ 9 ∧ 0 ≤ (((z : Nat) : Int)) ∧ (((z : Nat) : Int)) ≤ 3) ∨ (r1 = (nI 0) ∧ ((((x : Nat) : Int)) < 0 ∨ 40 < (((x : Nat) : Int)) ∨ (((y : Nat) : Int)) < 0 ∨ 9 < (((y : Nat) : Int)) ∨ (((z : Nat) : Int)) < 0 ∨ 3 < (((z : Nat) : Int)))) := w2
  · refine x_if_eq (tgt := 26) hx hb dX0_addCliff_6 (by decide) (by omega) (fun h10 => False.elim (by omega)) (fun h10 => ?_)
    refine lv_aload_n hx hb dX0_addCliff_9 rfl (lv_at hl 0 rfl) ?_
    refine va_get (D := D) (ci := 0) (v := .ref b1) (C := RX0) (T := TX0) (N := 6) hx hb hts inX0 hown hK hP 0 rfl rfl 0 (by decide) fl14 (fun _ h9 => h9) rfl dX0_addCliff_10 ?_
    refine lv_iload_n hx hb dX0_addCliff_13 rfl (lv_at hl 1 rfl) ?_
    refine lv_iload_n hx hb dX0_addCliff_14 rfl (lv_at hl 2 rfl) ?_
    refine lv_iload_n hx hb dX0_addCliff_15 rfl (lv_at hl 3 rfl) ?_
    refine k_V (q := (RX1, TX1, 2)) (ci := 1) (As := [.int (nI x), .int (nI y), .int (nI z)]) (wr := [(a, eCan b1 b2 sp he air sn)]) ⟨hx, hb, hml, hown, hts⟩ (c_X1_addThree_ge l D cI cC b1 c1 12 cl (3 * nc) x y z (by omega) (by omega) (by omega)) (cwV 3 hts gX0_addCliff_X1_addThree rfl rfl rfl (by decide +kernel) ⟨Nat.le_of_ble_eq_true rfl, Nat.le_of_ble_eq_true rfl⟩) rfl hl.1 rfl (Nat.le_of_ble_eq_true rfl) dX0_addCliff_16 ⟨Nat.zero_le _, Nat.zero_le _⟩ hN hK hP hD hS hA rfl (q0 := 1) rfl [1, 2] [0] rfl rfl ⟨rfl, rfl, by decide⟩ (fun r11 u H locs w12 hP hD hS => ?_)
    obtain rfl : r11 = (nI 0) := w12
    refine x_if_eq (tgt := 26) hx hb dX0_addCliff_19 (by decide) (by omega) (fun h13 => ?_) (fun h13 => False.elim (by omega))
    refine lv_iconst (v := (nI 0)) hx hb dX0_addCliff_26 (by decide) ?_
    exact x_iret hx hb hr hlocks dX0_addCliff_27 rfl (w1 := fun (_ : Unit) => [(a, eCan b1 b2 sp he air sn), (b1, eRow c1 (3 * nc)), (c1, eArr cI 12 cl)]) () rfl hK hP hD hS
  · refine x_if_eq (tgt := 26) hx hb dX0_addCliff_6 (by decide) (by omega) (fun h14 => ?_) (fun h14 => False.elim (by omega))
    refine lv_iconst (v := (nI 0)) hx hb dX0_addCliff_26 (by decide) ?_
    exact x_iret hx hb hr hlocks dX0_addCliff_27 rfl (w1 := fun (_ : Unit) => [(a, eCan b1 b2 sp he air sn), (b1, eRow c1 (3 * nc)), (c1, eArr cI 12 cl)]) () rfl hK hP hD hS

set_option maxRecDepth 100000 in
set_option maxHeartbeats 4000000 in
theorem c_X0_addWord_ok (l : Launch) (D : va_G) (cI cC : ClassId) (a : Nat) (b1 : Nat) (b2 : Nat) (sp : Nat) (he : Nat) (air : Nat) (sn : Nat) (c2 : Nat) (wd : Nat → Nat) (nw : Nat) (x : Nat) (y : Nat) (z : Nat) (hc : x ≤ 30 ∧ 1 ≤ y ∧ y ≤ 7 ∧ 1 ≤ z ∧ z ≤ 60 ∧ nw < 8) : mtI l D cI cC yX0_addWord wsX0_addWord ({ frames := 2, cells := 0, slots := 0, locals := 44 }) [.ref a, .int (nI x), .int (nI y), .int (nI z)] [(a, eCan b1 b2 sp he air sn), (b2, eRow c2 (3 * nw)), (c2, eArr cI 24 wd)] (fun (r : Int32) (_ : Unit) => r = (nI 1)) (fun (_ : Unit) => [(a, eCan b1 b2 sp he air sn), (b2, eRow c2 (3 * (nw + 1))), (c2, eArr cI 24 (add3 wd (3 * nw) x y z))]) := by
  refine mtI_of (cc := cX0_addWord) (maxL := 4) (ret := (some .boolean)) (by decide) rfl rfl ?_
  intro p e s m below meth c A hx hb hml hr hts hown hlocks hN hA hK hP hD hS ls hl
  have hown : s.vm.findClass RX0 = some m.cls := hown
  have hl : lv_has ls 4 [(0, .ref a), (1, .int (nI x)), (2, .int (nI y)), (3, .int (nI z))] := hl
  have fl20 := hts (.fieldLink RX0 20 "EchoPaysRent$Canyon" "words" "LEchoPaysRent$Row;") (by decide +kernel)
  have inX0 : ∀ w ∈ wsX00, w ∈ wsX0_addWord := by decide +kernel
  refine lv_iload_n hx hb dX0_addWord_0 rfl (lv_at hl 1 rfl) ?_
  refine lv_iload_n hx hb dX0_addWord_1 rfl (lv_at hl 2 rfl) ?_
  refine lv_iload_n hx hb dX0_addWord_2 rfl (lv_at hl 3 rfl) ?_
  refine k_SN (As := [.int (iI (((x : Nat) : Int))), .int (iI (((y : Nat) : Int))), .int (iI (((z : Nat) : Int)))]) (wr := [(a, eCan b1 b2 sp he air sn), (b2, eRow c2 (3 * nw)), (c2, eArr cI 24 wd)]) ⟨hx, hb, hml, hown, hts⟩ (c_X6_isWord l D cI cC (((x : Nat) : Int)) (((y : Nat) : Int)) (((z : Nat) : Int)) (by omega) (by omega) (by omega)) ⟨va_cnB 3 hts gX0_addWord_X6_isWord_n53 rfl rfl rfl (nzP_get hN (List.mem_of_getElem? (i := 9) rfl)) (hts (.initialized RX6) (by decide +kernel)) (by decide +kernel) ⟨Nat.le_of_ble_eq_true rfl, Nat.le_of_ble_eq_true rfl⟩, hts (.static yX6_isWord) (by decide +kernel), trivial⟩ rfl hl.1 (by simp only [nI_iI]; rfl) (Nat.le_of_ble_eq_true rfl) dX0_addWord_3 ⟨Nat.zero_le _, Nat.zero_le _⟩ hN hK hP hD hS hA [] [0, 1, 2] rfl rfl ⟨rfl, rfl, by decide⟩ (fun r1 u H locs w2 hP hD hS => ?_)
  obtain ⟨rfl, h3, h4, h5, h6, h7, h8⟩ | ⟨rfl, h9⟩ : (r1 = (nI 1) ∧ 0 ≤ (((x : Nat) : Int)) ∧ (((x : Nat) : Int)) ≤ 30 ∧ 1 ≤ (((y : Nat) : Int)) ∧ (((y : Nat) : Int)) ≤ 7 ∧ 1 ≤ (((z : Nat) : Int)) ∧ (((z : Nat) : Int)) ≤ 60) ∨ (r1 = (nI 0) ∧ ((((x : Nat) : Int)) < 0 ∨ 30 < (((x : Nat) : Int)) ∨ (((y : Nat) : Int)) < 1 ∨ 7 < (((y : Nat) : Int)) ∨ (((z : Nat) : Int)) < 1 ∨ 60 < (((z : Nat) : Int)))) := w2
  · refine x_if_eq (tgt := 26) hx hb dX0_addWord_6 (by decide) (by omega) (fun h10 => False.elim (by omega)) (fun h10 => ?_)
    refine lv_aload_n hx hb dX0_addWord_9 rfl (lv_at hl 0 rfl) ?_
    refine va_get (D := D) (ci := 0) (v := .ref b2) (C := RX0) (T := TX0) (N := 6) hx hb hts inX0 hown hK hP 0 rfl rfl 1 (by decide) fl20 (fun _ h9 => h9) rfl dX0_addWord_10 ?_
    refine lv_iload_n hx hb dX0_addWord_13 rfl (lv_at hl 1 rfl) ?_
    refine lv_iload_n hx hb dX0_addWord_14 rfl (lv_at hl 2 rfl) ?_
    refine lv_iload_n hx hb dX0_addWord_15 rfl (lv_at hl 3 rfl) ?_
    refine k_V (q := (RX1, TX1, 2)) (ci := 1) (As := [.int (nI x), .int (nI y), .int (nI z)]) (wr := [(a, eCan b1 b2 sp he air sn)]) ⟨hx, hb, hml, hown, hts⟩ (c_X1_addThree_lt l D cI cC b2 c2 24 wd (3 * nw) x y z (by omega) (by omega)) (cwV 3 hts gX0_addWord_X1_addThree rfl rfl rfl (by decide +kernel) ⟨Nat.le_of_ble_eq_true rfl, Nat.le_of_ble_eq_true rfl⟩) rfl hl.1 rfl (Nat.le_of_ble_eq_true rfl) dX0_addWord_16 ⟨Nat.zero_le _, Nat.zero_le _⟩ hN hK hP hD hS hA rfl (q0 := 1) rfl [1, 2] [0] rfl rfl ⟨rfl, rfl, by decide⟩ (fun r11 u H locs w12 hP hD hS => ?_)
    obtain rfl : r11 = (nI 1) := w12
    refine x_if_eq (tgt := 26) hx hb dX0_addWord_19 (by decide) (by omega) (fun h13 => False.elim (by omega)) (fun h13 => ?_)
    have hP : va_P D vwCl [(a, eCan b1 b2 sp he air sn), (b2, eRow c2 (3 * (nw + 1))), (c2, eArr cI 24 (add3 wd (3 * nw) x y z))] H := by rw [show 3 * (nw + 1) = 3 * nw + 1 + 1 + 1 from by omega]; exact hP
    have hD : va_D A [(a, eCan b1 b2 sp he air sn), (b2, eRow c2 (3 * (nw + 1))), (c2, eArr cI 24 (add3 wd (3 * nw) x y z))] := by rw [show 3 * (nw + 1) = 3 * nw + 1 + 1 + 1 from by omega]; exact hD
    refine lv_iconst (v := (nI 1)) hx hb dX0_addWord_22 (by decide) ?_
    refine lv_goto (tgt := 27) hx hb dX0_addWord_23 (by decide) ?_
    exact x_iret hx hb hr hlocks dX0_addWord_27 rfl (w1 := fun (_ : Unit) => [(a, eCan b1 b2 sp he air sn), (b2, eRow c2 (3 * (nw + 1))), (c2, eArr cI 24 (add3 wd (3 * nw) x y z))]) () rfl hK hP hD hS
  · exact False.elim (by omega)

set_option maxRecDepth 100000 in
set_option maxHeartbeats 4000000 in
theorem c_X0_addWord_no (l : Launch) (D : va_G) (cI cC : ClassId) (a : Nat) (b1 : Nat) (b2 : Nat) (sp : Nat) (he : Nat) (air : Nat) (sn : Nat) (c2 : Nat) (wd : Nat → Nat) (nw : Nat) (x : Nat) (y : Nat) (z : Nat) (hx3 : x < 1000 ∧ y < 1000 ∧ z < 1000) (hc : 30 < x ∨ y < 1 ∨ 7 < y ∨ z < 1 ∨ 60 < z ∨ nw = 8) (hn4 : nw ≤ 8) : mtI l D cI cC yX0_addWord wsX0_addWord ({ frames := 2, cells := 0, slots := 0, locals := 44 }) [.ref a, .int (nI x), .int (nI y), .int (nI z)] [(a, eCan b1 b2 sp he air sn), (b2, eRow c2 (3 * nw)), (c2, eArr cI 24 wd)] (fun (r : Int32) (_ : Unit) => r = (nI 0)) (fun (_ : Unit) => [(a, eCan b1 b2 sp he air sn), (b2, eRow c2 (3 * nw)), (c2, eArr cI 24 wd)]) := by
  refine mtI_of (cc := cX0_addWord) (maxL := 4) (ret := (some .boolean)) (by decide) rfl rfl ?_
  intro p e s m below meth c A hx hb hml hr hts hown hlocks hN hA hK hP hD hS ls hl
  have hown : s.vm.findClass RX0 = some m.cls := hown
  have hl : lv_has ls 4 [(0, .ref a), (1, .int (nI x)), (2, .int (nI y)), (3, .int (nI z))] := hl
  have fl20 := hts (.fieldLink RX0 20 "EchoPaysRent$Canyon" "words" "LEchoPaysRent$Row;") (by decide +kernel)
  have inX0 : ∀ w ∈ wsX00, w ∈ wsX0_addWord := by decide +kernel
  refine lv_iload_n hx hb dX0_addWord_0 rfl (lv_at hl 1 rfl) ?_
  refine lv_iload_n hx hb dX0_addWord_1 rfl (lv_at hl 2 rfl) ?_
  refine lv_iload_n hx hb dX0_addWord_2 rfl (lv_at hl 3 rfl) ?_
  refine k_SN (As := [.int (iI (((x : Nat) : Int))), .int (iI (((y : Nat) : Int))), .int (iI (((z : Nat) : Int)))]) (wr := [(a, eCan b1 b2 sp he air sn), (b2, eRow c2 (3 * nw)), (c2, eArr cI 24 wd)]) ⟨hx, hb, hml, hown, hts⟩ (c_X6_isWord l D cI cC (((x : Nat) : Int)) (((y : Nat) : Int)) (((z : Nat) : Int)) (by omega) (by omega) (by omega)) ⟨va_cnB 3 hts gX0_addWord_X6_isWord_n53 rfl rfl rfl (nzP_get hN (List.mem_of_getElem? (i := 9) rfl)) (hts (.initialized RX6) (by decide +kernel)) (by decide +kernel) ⟨Nat.le_of_ble_eq_true rfl, Nat.le_of_ble_eq_true rfl⟩, hts (.static yX6_isWord) (by decide +kernel), trivial⟩ rfl hl.1 (by simp only [nI_iI]; rfl) (Nat.le_of_ble_eq_true rfl) dX0_addWord_3 ⟨Nat.zero_le _, Nat.zero_le _⟩ hN hK hP hD hS hA [] [0, 1, 2] rfl rfl ⟨rfl, rfl, by decide⟩ (fun r1 u H locs w2 hP hD hS => ?_)
  obtain ⟨rfl, h3, h4, h5, h6, h7, h8⟩ | ⟨rfl, h9⟩ : (r1 = (nI 1) ∧ 0 ≤ (((x : Nat) : Int)) ∧ (((x : Nat) : Int)) ≤ 30 ∧ 1 ≤ (((y : Nat) : Int)) ∧ (((y : Nat) : Int)) ≤ 7 ∧ 1 ≤ (((z : Nat) : Int)) ∧ (((z : Nat) : Int)) ≤ 60) ∨ (r1 = (nI 0) ∧ ((((x : Nat) : Int)) < 0 ∨ 30 < (((x : Nat) : Int)) ∨ (((y : Nat) : Int)) < 1 ∨ 7 < (((y : Nat) : Int)) ∨ (((z : Nat) : Int)) < 1 ∨ 60 < (((z : Nat) : Int)))) := w2
  · refine x_if_eq (tgt := 26) hx hb dX0_addWord_6 (by decide) (by omega) (fun h10 => False.elim (by omega)) (fun h10 => ?_)
    refine lv_aload_n hx hb dX0_addWord_9 rfl (lv_at hl 0 rfl) ?_
    refine va_get (D := D) (ci := 0) (v := .ref b2) (C := RX0) (T := TX0) (N := 6) hx hb hts inX0 hown hK hP 0 rfl rfl 1 (by decide) fl20 (fun _ h9 => h9) rfl dX0_addWord_10 ?_
    refine lv_iload_n hx hb dX0_addWord_13 rfl (lv_at hl 1 rfl) ?_
    refine lv_iload_n hx hb dX0_addWord_14 rfl (lv_at hl 2 rfl) ?_
    refine lv_iload_n hx hb dX0_addWord_15 rfl (lv_at hl 3 rfl) ?_
    refine k_V (q := (RX1, TX1, 2)) (ci := 1) (As := [.int (nI x), .int (nI y), .int (nI z)]) (wr := [(a, eCan b1 b2 sp he air sn)]) ⟨hx, hb, hml, hown, hts⟩ (c_X1_addThree_ge l D cI cC b2 c2 24 wd (3 * nw) x y z (by omega) (by omega) (by omega)) (cwV 3 hts gX0_addWord_X1_addThree rfl rfl rfl (by decide +kernel) ⟨Nat.le_of_ble_eq_true rfl, Nat.le_of_ble_eq_true rfl⟩) rfl hl.1 rfl (Nat.le_of_ble_eq_true rfl) dX0_addWord_16 ⟨Nat.zero_le _, Nat.zero_le _⟩ hN hK hP hD hS hA rfl (q0 := 1) rfl [1, 2] [0] rfl rfl ⟨rfl, rfl, by decide⟩ (fun r11 u H locs w12 hP hD hS => ?_)
    obtain rfl : r11 = (nI 0) := w12
    refine x_if_eq (tgt := 26) hx hb dX0_addWord_19 (by decide) (by omega) (fun h13 => ?_) (fun h13 => False.elim (by omega))
    refine lv_iconst (v := (nI 0)) hx hb dX0_addWord_26 (by decide) ?_
    exact x_iret hx hb hr hlocks dX0_addWord_27 rfl (w1 := fun (_ : Unit) => [(a, eCan b1 b2 sp he air sn), (b2, eRow c2 (3 * nw)), (c2, eArr cI 24 wd)]) () rfl hK hP hD hS
  · refine x_if_eq (tgt := 26) hx hb dX0_addWord_6 (by decide) (by omega) (fun h14 => ?_) (fun h14 => False.elim (by omega))
    refine lv_iconst (v := (nI 0)) hx hb dX0_addWord_26 (by decide) ?_
    exact x_iret hx hb hr hlocks dX0_addWord_27 rfl (w1 := fun (_ : Unit) => [(a, eCan b1 b2 sp he air sn), (b2, eRow c2 (3 * nw)), (c2, eArr cI 24 wd)]) () rfl hK hP hD hS

set_option maxRecDepth 100000 in
set_option maxHeartbeats 4000000 in
theorem c_X0_setSpeaker (l : Launch) (D : va_G) (cI cC : ClassId) (a : Nat) (b1 : Nat) (b2 : Nat) (sp : Nat) (he : Nat) (air : Nat) (sn : Nat) (x : Nat) (hx3 : x < 1000) : mtI l D cI cC yX0_setSpeaker wsX0_setSpeaker ({ frames := 2, cells := 0, slots := 0, locals := 42 }) [.ref a, .int (nI x)] [(a, eCan b1 b2 sp he air sn)] (fun (r : Int32) (_ : Unit) => (r = (nI 1) ∧ 0 ≤ x ∧ x ≤ 40) ∨ (r = (nI 0) ∧ (x < 0 ∨ 40 < x))) (fun (_ : Unit) => [(a, eCan b1 b2 x he air sn)]) := by
  refine mtI_of (cc := cX0_setSpeaker) (maxL := 2) (ret := (some .boolean)) (by decide) rfl rfl ?_
  intro p e s m below meth c A hx hb hml hr hts hown hlocks hN hA hK hP hD hS ls hl
  have hown : s.vm.findClass RX0 = some m.cls := hown
  have hl : lv_has ls 2 [(0, .ref a), (1, .int (nI x))] := hl
  have fl29 := hts (.fieldLink RX0 29 "EchoPaysRent$Canyon" "speaker" "I") (by decide +kernel)
  have inX0 : ∀ w ∈ wsX00, w ∈ wsX0_setSpeaker := by decide +kernel
  refine lv_aload_n hx hb dX0_setSpeaker_0 rfl (lv_at hl 0 rfl) ?_
  refine lv_iload_n hx hb dX0_setSpeaker_1 rfl (lv_at hl 1 rfl) ?_
  refine va_put (D := D) (ci := 0) (v := .int (nI x)) (ty := .int) (C := RX0) (T := TX0) (N := 6) hx hb hts inX0 tyX0 tyX0_ok nmX0 hown hK hP hD hS 0 rfl rfl 2 (by decide) fl29 (fun _ h9 => h9) rfl (by decide +kernel) rfl rfl (Nat.le_of_ble_eq_true rfl) dX0_setSpeaker_2 (fun H locs hP hD hS => ?_)
  have hP : va_P D vwCl [(a, eCan b1 b2 x he air sn)] H := hP
  have hD : va_D A [(a, eCan b1 b2 x he air sn)] := hD
  refine lv_iload_n hx hb dX0_setSpeaker_5 rfl (lv_at hl 1 rfl) ?_
  refine k_SN (As := [.int (iI (((x : Nat) : Int)))]) (wr := [(a, eCan b1 b2 x he air sn)]) ⟨hx, hb, hml, hown, hts⟩ (c_X6_isYard l D cI cC (((x : Nat) : Int)) (by omega)) ⟨va_cnB 1 hts gX0_setSpeaker_X6_isYard_n56 rfl rfl rfl (nzP_get hN (List.mem_of_getElem? (i := 11) rfl)) (hts (.initialized RX6) (by decide +kernel)) (by decide +kernel) ⟨Nat.le_of_ble_eq_true rfl, Nat.le_of_ble_eq_true rfl⟩, hts (.static yX6_isYard) (by decide +kernel), trivial⟩ rfl hl.1 (by simp only [nI_iI]; rfl) (Nat.le_of_ble_eq_true rfl) dX0_setSpeaker_6 ⟨Nat.zero_le _, Nat.zero_le _⟩ hN hK hP hD hS hA [] [0] rfl rfl ⟨rfl, rfl, by decide⟩ (fun r1 u H locs w2 hP hD hS => ?_)
  obtain ⟨rfl, h3, h4⟩ | ⟨rfl, h5⟩ : (r1 = (nI 1) ∧ 0 ≤ (((x : Nat) : Int)) ∧ (((x : Nat) : Int)) ≤ 40) ∨ (r1 = (nI 0) ∧ ((((x : Nat) : Int)) < 0 ∨ 40 < (((x : Nat) : Int)))) := w2
  · exact x_iret hx hb hr hlocks dX0_setSpeaker_9 rfl (w1 := fun (_ : Unit) => [(a, eCan b1 b2 x he air sn)]) () (Or.inl ⟨rfl, (by omega), (by omega)⟩) hK hP hD hS
  · exact x_iret hx hb hr hlocks dX0_setSpeaker_9 rfl (w1 := fun (_ : Unit) => [(a, eCan b1 b2 x he air sn)]) () (Or.inr ⟨rfl, (by omega)⟩) hK hP hD hS

set_option maxRecDepth 100000 in
set_option maxHeartbeats 4000000 in
theorem c_X0_setHearer (l : Launch) (D : va_G) (cI cC : ClassId) (a : Nat) (b1 : Nat) (b2 : Nat) (sp : Nat) (he : Nat) (air : Nat) (sn : Nat) (x : Nat) (hx3 : x < 1000) : mtI l D cI cC yX0_setHearer wsX0_setHearer ({ frames := 2, cells := 0, slots := 0, locals := 42 }) [.ref a, .int (nI x)] [(a, eCan b1 b2 sp he air sn)] (fun (r : Int32) (_ : Unit) => (r = (nI 1) ∧ 0 ≤ x ∧ x ≤ 40) ∨ (r = (nI 0) ∧ (x < 0 ∨ 40 < x))) (fun (_ : Unit) => [(a, eCan b1 b2 sp x air sn)]) := by
  refine mtI_of (cc := cX0_setHearer) (maxL := 2) (ret := (some .boolean)) (by decide) rfl rfl ?_
  intro p e s m below meth c A hx hb hml hr hts hown hlocks hN hA hK hP hD hS ls hl
  have hown : s.vm.findClass RX0 = some m.cls := hown
  have hl : lv_has ls 2 [(0, .ref a), (1, .int (nI x))] := hl
  have fl33 := hts (.fieldLink RX0 33 "EchoPaysRent$Canyon" "hearer" "I") (by decide +kernel)
  have inX0 : ∀ w ∈ wsX00, w ∈ wsX0_setHearer := by decide +kernel
  refine lv_aload_n hx hb dX0_setHearer_0 rfl (lv_at hl 0 rfl) ?_
  refine lv_iload_n hx hb dX0_setHearer_1 rfl (lv_at hl 1 rfl) ?_
  refine va_put (D := D) (ci := 0) (v := .int (nI x)) (ty := .int) (C := RX0) (T := TX0) (N := 6) hx hb hts inX0 tyX0 tyX0_ok nmX0 hown hK hP hD hS 0 rfl rfl 3 (by decide) fl33 (fun _ h9 => h9) rfl (by decide +kernel) rfl rfl (Nat.le_of_ble_eq_true rfl) dX0_setHearer_2 (fun H locs hP hD hS => ?_)
  have hP : va_P D vwCl [(a, eCan b1 b2 sp x air sn)] H := hP
  have hD : va_D A [(a, eCan b1 b2 sp x air sn)] := hD
  refine lv_iload_n hx hb dX0_setHearer_5 rfl (lv_at hl 1 rfl) ?_
  refine k_SN (As := [.int (iI (((x : Nat) : Int)))]) (wr := [(a, eCan b1 b2 sp x air sn)]) ⟨hx, hb, hml, hown, hts⟩ (c_X6_isYard l D cI cC (((x : Nat) : Int)) (by omega)) ⟨va_cnB 1 hts gX0_setHearer_X6_isYard_n56 rfl rfl rfl (nzP_get hN (List.mem_of_getElem? (i := 11) rfl)) (hts (.initialized RX6) (by decide +kernel)) (by decide +kernel) ⟨Nat.le_of_ble_eq_true rfl, Nat.le_of_ble_eq_true rfl⟩, hts (.static yX6_isYard) (by decide +kernel), trivial⟩ rfl hl.1 (by simp only [nI_iI]; rfl) (Nat.le_of_ble_eq_true rfl) dX0_setHearer_6 ⟨Nat.zero_le _, Nat.zero_le _⟩ hN hK hP hD hS hA [] [0] rfl rfl ⟨rfl, rfl, by decide⟩ (fun r1 u H locs w2 hP hD hS => ?_)
  obtain ⟨rfl, h3, h4⟩ | ⟨rfl, h5⟩ : (r1 = (nI 1) ∧ 0 ≤ (((x : Nat) : Int)) ∧ (((x : Nat) : Int)) ≤ 40) ∨ (r1 = (nI 0) ∧ ((((x : Nat) : Int)) < 0 ∨ 40 < (((x : Nat) : Int)))) := w2
  · exact x_iret hx hb hr hlocks dX0_setHearer_9 rfl (w1 := fun (_ : Unit) => [(a, eCan b1 b2 sp x air sn)]) () (Or.inl ⟨rfl, (by omega), (by omega)⟩) hK hP hD hS
  · exact x_iret hx hb hr hlocks dX0_setHearer_9 rfl (w1 := fun (_ : Unit) => [(a, eCan b1 b2 sp x air sn)]) () (Or.inr ⟨rfl, (by omega)⟩) hK hP hD hS

set_option maxRecDepth 100000 in
set_option maxHeartbeats 4000000 in
theorem c_X0_setAir (l : Launch) (D : va_G) (cI cC : ClassId) (a : Nat) (b1 : Nat) (b2 : Nat) (sp : Nat) (he : Nat) (air : Nat) (sn : Nat) (x : Nat) (hx3 : x < 1000) : mtI l D cI cC yX0_setAir wsX0_setAir ({ frames := 1, cells := 0, slots := 0, locals := 22 }) [.ref a, .int (nI x)] [(a, eCan b1 b2 sp he air sn)] (fun (r : Int32) (_ : Unit) => (r = (nI 1) ∧ 1 ≤ x ∧ x ≤ 9) ∨ (r = (nI 0) ∧ (x < 1 ∨ 9 < x))) (fun (_ : Unit) => [(a, eCan b1 b2 sp he x sn)]) := by
  refine mtI_of (cc := cX0_setAir) (maxL := 2) (ret := (some .boolean)) (by decide) rfl rfl ?_
  intro p e s m below meth c A hx hb hml hr hts hown hlocks hN hA hK hP hD hS ls hl
  have hown : s.vm.findClass RX0 = some m.cls := hown
  have hl : lv_has ls 2 [(0, .ref a), (1, .int (nI x))] := hl
  have fl36 := hts (.fieldLink RX0 36 "EchoPaysRent$Canyon" "air" "I") (by decide +kernel)
  have inX0 : ∀ w ∈ wsX00, w ∈ wsX0_setAir := by decide +kernel
  refine lv_aload_n hx hb dX0_setAir_0 rfl (lv_at hl 0 rfl) ?_
  refine lv_iload_n hx hb dX0_setAir_1 rfl (lv_at hl 1 rfl) ?_
  refine va_put (D := D) (ci := 0) (v := .int (nI x)) (ty := .int) (C := RX0) (T := TX0) (N := 6) hx hb hts inX0 tyX0 tyX0_ok nmX0 hown hK hP hD hS 0 rfl rfl 4 (by decide) fl36 (fun _ h9 => h9) rfl (by decide +kernel) rfl rfl (Nat.le_of_ble_eq_true rfl) dX0_setAir_2 (fun H locs hP hD hS => ?_)
  have hP : va_P D vwCl [(a, eCan b1 b2 sp he x sn)] H := hP
  have hD : va_D A [(a, eCan b1 b2 sp he x sn)] := hD
  refine lv_iload_n hx hb dX0_setAir_5 rfl (lv_at hl 1 rfl) ?_
  refine lv_iconst (v := (nI 1)) hx hb dX0_setAir_6 (by decide) ?_
  refine lv_bipush (v := (nI 9)) hx hb dX0_setAir_7 (by decide) ?_
  refine k_SN (As := [.int (iI (((x : Nat) : Int))), .int (iI (((1 : Nat) : Int))), .int (iI (((9 : Nat) : Int)))]) (wr := [(a, eCan b1 b2 sp he x sn)]) ⟨hx, hb, hml, hown, hts⟩ (c_X6_within l D cI cC (((x : Nat) : Int)) (((1 : Nat) : Int)) (((9 : Nat) : Int)) (by omega) (by omega) (by omega)) ⟨va_cnB 3 hts gX0_setAir_X6_within_n60 rfl rfl rfl (nzP_get hN (List.mem_of_getElem? (i := 12) rfl)) (hts (.initialized RX6) (by decide +kernel)) (by decide +kernel) ⟨Nat.le_of_ble_eq_true rfl, Nat.le_of_ble_eq_true rfl⟩, hts (.static yX6_within) (by decide +kernel), trivial⟩ rfl hl.1 (by simp only [nI_iI]; rfl) (Nat.le_of_ble_eq_true rfl) dX0_setAir_9 ⟨Nat.zero_le _, Nat.zero_le _⟩ hN hK hP hD hS hA [] [0] rfl rfl ⟨rfl, rfl, by decide⟩ (fun r1 u H locs w2 hP hD hS => ?_)
  obtain ⟨rfl, h3, h4⟩ | ⟨rfl, h5⟩ : (r1 = (nI 1) ∧ (((1 : Nat) : Int)) ≤ (((x : Nat) : Int)) ∧ (((x : Nat) : Int)) ≤ (((9 : Nat) : Int))) ∨ (r1 = (nI 0) ∧ ((((x : Nat) : Int)) < (((1 : Nat) : Int)) ∨ (((9 : Nat) : Int)) < (((x : Nat) : Int)))) := w2
  · exact x_iret hx hb hr hlocks dX0_setAir_12 rfl (w1 := fun (_ : Unit) => [(a, eCan b1 b2 sp he x sn)]) () (Or.inl ⟨rfl, (by omega), (by omega)⟩) hK hP hD hS
  · exact x_iret hx hb hr hlocks dX0_setAir_12 rfl (w1 := fun (_ : Unit) => [(a, eCan b1 b2 sp he x sn)]) () (Or.inr ⟨rfl, (by omega)⟩) hK hP hD hS

set_option maxRecDepth 100000 in
set_option maxHeartbeats 4000000 in
theorem c_X0_moveCliff (l : Launch) (D : va_G) (cI cC : ClassId) (a : Nat) (b1 : Nat) (b2 : Nat) (sp : Nat) (he : Nat) (air : Nat) (sn : Nat) (c1 : Nat) (cl : Nat → Nat) (nc : Nat) (f : Nat) (x : Nat) (hf : f < nc) (hn4 : nc ≤ 4) : mtV l D cI cC yX0_moveCliff wsX0_moveCliff ({ frames := 1, cells := 0, slots := 0, locals := 22 }) [.ref a, .int (nI f), .int (nI x)] [(a, eCan b1 b2 sp he air sn), (b1, eRow c1 (3 * nc)), (c1, eArr cI 12 cl)] (fun (_ : Unit) => True) (fun (_ : Unit) => [(a, eCan b1 b2 sp he air sn), (b1, eRow c1 (3 * nc)), (c1, eArr cI 12 (upN cl (3 * f) x))]) := by
  refine mtV_of (cc := cX0_moveCliff) (maxL := 3) (ret := none) (by decide) rfl rfl ?_
  intro p e s m below meth c A hx hb hml hr hts hown hlocks hN hA hK hP hD hS ls hl
  have hown : s.vm.findClass RX0 = some m.cls := hown
  have hl : lv_has ls 3 [(0, .ref a), (1, .int (nI f)), (2, .int (nI x))] := hl
  have fl14 := hts (.fieldLink RX0 14 "EchoPaysRent$Canyon" "cliffs" "LEchoPaysRent$Row;") (by decide +kernel)
  have inX0 : ∀ w ∈ wsX00, w ∈ wsX0_moveCliff := by decide +kernel
  refine lv_aload_n hx hb dX0_moveCliff_0 rfl (lv_at hl 0 rfl) ?_
  refine va_get (D := D) (ci := 0) (v := .ref b1) (C := RX0) (T := TX0) (N := 6) hx hb hts inX0 hown hK hP 0 rfl rfl 0 (by decide) fl14 (fun _ h9 => h9) rfl dX0_moveCliff_1 ?_
  refine lv_iconst (v := (nI 3)) hx hb dX0_moveCliff_4 (by decide) ?_
  refine lv_iload_n hx hb dX0_moveCliff_5 rfl (lv_at hl 1 rfl) ?_
  refine x_imul hx hb dX0_moveCliff_6 ?_
  refine lv_iconst (v := (nI 0)) hx hb dX0_moveCliff_7 (by decide) ?_
  refine x_iadd hx hb dX0_moveCliff_8 ?_
  refine lv_iload_n hx hb dX0_moveCliff_9 rfl (lv_at hl 2 rfl) ?_
  refine k_Vv (q := (RX1, TX1, 2)) (ci := 1) (As := [.int (nI (3 * f + 0)), .int (nI x)]) (wr := [(a, eCan b1 b2 sp he air sn)]) ⟨hx, hb, hml, hown, hts⟩ (c_X1_set_lt l D cI cC b1 c1 12 cl (3 * nc) (3 * f + 0) x (by omega) (by omega) (by omega)) (cwV 2 hts gX0_moveCliff_X1_set rfl rfl rfl (by decide +kernel) ⟨Nat.le_of_ble_eq_true rfl, Nat.le_of_ble_eq_true rfl⟩) rfl hl.1 rfl (Nat.le_of_ble_eq_true rfl) dX0_moveCliff_10 ⟨Nat.zero_le _, Nat.zero_le _⟩ hN hK hP hD hS hA rfl (q0 := 1) rfl [1, 2] [0] rfl rfl ⟨rfl, rfl, by decide⟩ (fun u H locs w2 hP hD hS => ?_)
  exact x_vret hx hb hr hlocks dX0_moveCliff_13 (w1 := fun (_ : Unit) => [(a, eCan b1 b2 sp he air sn), (b1, eRow c1 (3 * nc)), (c1, eArr cI 12 (upN cl (3 * f) x))]) () trivial hK hP hD hS
