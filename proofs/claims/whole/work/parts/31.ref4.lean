/-- eight places of a, told to those of b -/
def cp8 (g : Nat → Nat) (a b k : Nat) : Nat → Nat := fun j => if 8 * b ≤ j ∧ j < 8 * b + k then g (8 * a + (j - 8 * b)) else g j
theorem cp8_0 (g : Nat → Nat) (a b : Nat) : cp8 g a b 0 = g := by
  funext j; unfold cp8; rw [if_neg (by omega)]
theorem cp8_s {g : Nat → Nat} {a b k : Nat} (h : a ≠ b) (hk : k < 8) : cp8 g a b (k + 1) = upN (cp8 g a b k) (8 * b + k) (cp8 g a b k (8 * a + k)) := by
  funext j; unfold cp8 upN; dsimp only
  by_cases e : j = 8 * b + k
  · subst e
    rw [if_pos (by omega), if_pos rfl, if_neg (by omega), show 8 * b + k - 8 * b = k from by omega]
  · rw [if_neg e]
    by_cases h2 : 8 * b ≤ j ∧ j < 8 * b + k
    · rw [if_pos (by omega), if_pos h2]
    · rw [if_neg (by omega), if_neg h2]
/-- what 'note' leaves of a full row of sixteen: all are told four places lower -/
def shf (g : Nat → Nat) (k : Nat) : Nat → Nat := fun j => if j < k then g (j + 4) else g j
theorem shf_0 (g : Nat → Nat) : shf g 0 = g := by
  funext j; unfold shf; rw [if_neg (by omega)]
theorem shf_s (g : Nat → Nat) (k : Nat) : shf g (k + 1) = upN (shf g k) k (shf g k (k + 4)) := by
  funext j; unfold shf upN; dsimp only
  by_cases e : j = k
  · subst e; rw [if_pos (by omega), if_pos rfl, if_neg (by omega)]
  · rw [if_neg e]
    by_cases h2 : j < k
    · rw [if_pos (by omega), if_pos h2]
    · rw [if_neg (by omega), if_neg h2]

set_option maxRecDepth 100000 in
set_option maxHeartbeats 4000000 in
theorem c_X7_isYard (l : Launch) (D : va_G) (cI cC : ClassId) (y : Int) (hy : -2147483648 ≤ y ∧ y < 2147483648) : mtI l D cI cC yX7_isYard wsX7_isYard ({ frames := 1, cells := 0, slots := 0, locals := 25 }) [.int (iI y)] [] (fun (r : Int32) (_ : Unit) => (r = (nI 1) ∧ 0 ≤ y ∧ y ≤ 40) ∨ (r = (nI 0) ∧ (y < 0 ∨ 40 < y))) (fun (_ : Unit) => []) := by
  refine mtI_of (cc := cX7_isYard) (maxL := 1) (ret := (some .boolean)) (by decide) rfl rfl ?_
  intro p e s m below meth c A hx hb hml hr hts hown hlocks hN hA hK hP hD hS ls hl
  have hown : s.vm.findClass RX7 = some m.cls := hown
  have hl : lv_has ls 1 [(0, .int (iI y))] := hl
  obtain ⟨H, hHe⟩ : ∃ H, H = s.heap := ⟨_, rfl⟩
  rw [← hHe] at hP ⊢
  have hS : va_S A s.heap H [] := by rw [hHe]; exact va_S.rf
  refine lv_iload_n hx hb dX7_isYard_0 rfl (lv_at hl 0 rfl) ?_
  refine z_i2l hx hb dX7_isYard_1 (by omega) ?_
  refine lv_lconst (v := lN 0) hx hb dX7_isYard_2 rfl ?_
  refine lv_ldc2 (v := lN 40) hx hb hown (hts (.constantLong RX7 105 40) (by decide +kernel)) dX7_isYard_3 ?_
  refine k_S (As := [.long (lI y), .long (lI (((0 : Nat) : Int))), .long (lI (((40 : Nat) : Int)))]) (wr := []) ⟨hx, hb, hml, hown, hts⟩ (c_X7_in l D cI cC y (((0 : Nat) : Int)) (((40 : Nat) : Int)) (by omega) (by omega) (by omega)) (cwS 3 hts gX7_isYard_X7_in rfl rfl rfl (by decide +kernel) ⟨Nat.le_of_ble_eq_true rfl, Nat.le_of_ble_eq_true rfl⟩) rfl hl.1 (by simp only [nI_iI, lN_lI]; rfl) (Nat.le_of_ble_eq_true rfl) dX7_isYard_6 ⟨Nat.zero_le _, Nat.zero_le _⟩ hN hK hP hD hS hA [] [] rfl rfl ⟨rfl, rfl, by decide⟩ (fun r1 u H locs w2 hP hD hS => ?_)
  obtain ⟨rfl, h3, h4⟩ | ⟨rfl, h5⟩ : (r1 = (nI 1) ∧ (((0 : Nat) : Int)) ≤ y ∧ y ≤ (((40 : Nat) : Int))) ∨ (r1 = (nI 0) ∧ (y < (((0 : Nat) : Int)) ∨ (((40 : Nat) : Int)) < y)) := w2
  · exact x_iret hx hb hr hlocks dX7_isYard_9 rfl (post := fun (r : Int32) (_ : Unit) => (r = (nI 1) ∧ 0 ≤ y ∧ y ≤ 40) ∨ (r = (nI 0) ∧ (y < 0 ∨ 40 < y))) (w1 := fun (_ : Unit) => []) () (Or.inl ⟨rfl, (by omega), (by omega)⟩) hK hP hD hS
  · exact x_iret hx hb hr hlocks dX7_isYard_9 rfl (post := fun (r : Int32) (_ : Unit) => (r = (nI 1) ∧ 0 ≤ y ∧ y ≤ 40) ∨ (r = (nI 0) ∧ (y < 0 ∨ 40 < y))) (w1 := fun (_ : Unit) => []) () (Or.inr ⟨rfl, (by omega)⟩) hK hP hD hS

set_option maxRecDepth 100000 in
set_option maxHeartbeats 4000000 in
theorem c_X7_isWord (l : Launch) (D : va_G) (cI cC : ClassId) (x : Int) (y : Int) (z : Int) (hx : -2147483648 ≤ x ∧ x < 2147483648) (hy : -2147483648 ≤ y ∧ y < 2147483648) (hz : -2147483648 ≤ z ∧ z < 2147483648) : mtI l D cI cC yX7_isWord wsX7_isWord ({ frames := 1, cells := 0, slots := 0, locals := 25 }) [.int (iI x), .int (iI y), .int (iI z)] [] (fun (r : Int32) (_ : Unit) => (r = (nI 1) ∧ 0 ≤ x ∧ x ≤ 30 ∧ 1 ≤ y ∧ y ≤ 7 ∧ 1 ≤ z ∧ z ≤ 60) ∨ (r = (nI 0) ∧ (x < 0 ∨ 30 < x ∨ y < 1 ∨ 7 < y ∨ z < 1 ∨ 60 < z))) (fun (_ : Unit) => []) := by
  refine mtI_of (cc := cX7_isWord) (maxL := 3) (ret := (some .boolean)) (by decide) rfl rfl ?_
  intro p e s m below meth c A hx hb hml hr hts hown hlocks hN hA hK hP hD hS ls hl
  have hown : s.vm.findClass RX7 = some m.cls := hown
  have hl : lv_has ls 3 [(0, .int (iI x)), (1, .int (iI y)), (2, .int (iI z))] := hl
  obtain ⟨H, hHe⟩ : ∃ H, H = s.heap := ⟨_, rfl⟩
  rw [← hHe] at hP ⊢
  have hS : va_S A s.heap H [] := by rw [hHe]; exact va_S.rf
  refine lv_iload_n hx hb dX7_isWord_0 rfl (lv_at hl 0 rfl) ?_
  refine z_i2l hx hb dX7_isWord_1 (by omega) ?_
  refine lv_lconst (v := lN 0) hx hb dX7_isWord_2 rfl ?_
  refine lv_ldc2 (v := lN 30) hx hb hown (hts (.constantLong RX7 107 30) (by decide +kernel)) dX7_isWord_3 ?_
  refine k_S (As := [.long (lI x), .long (lI (((0 : Nat) : Int))), .long (lI (((30 : Nat) : Int)))]) (wr := []) ⟨hx, hb, hml, hown, hts⟩ (c_X7_in l D cI cC x (((0 : Nat) : Int)) (((30 : Nat) : Int)) (by omega) (by omega) (by omega)) (cwS 3 hts gX7_isWord_X7_in rfl rfl rfl (by decide +kernel) ⟨Nat.le_of_ble_eq_true rfl, Nat.le_of_ble_eq_true rfl⟩) rfl hl.1 (by simp only [nI_iI, lN_lI]; rfl) (Nat.le_of_ble_eq_true rfl) dX7_isWord_6 ⟨Nat.zero_le _, Nat.zero_le _⟩ hN hK hP hD hS hA [] [] rfl rfl ⟨rfl, rfl, by decide⟩ (fun r1 u H locs w2 hP hD hS => ?_)
  obtain ⟨rfl, h3, h4⟩ | ⟨rfl, h5⟩ : (r1 = (nI 1) ∧ (((0 : Nat) : Int)) ≤ x ∧ x ≤ (((30 : Nat) : Int))) ∨ (r1 = (nI 0) ∧ (x < (((0 : Nat) : Int)) ∨ (((30 : Nat) : Int)) < x)) := w2
  · refine x_if_eq (tgt := 40) hx hb dX7_isWord_9 (by decide) (by omega) (fun h6 => False.elim (by omega)) (fun h6 => ?_)
    refine lv_iload_n hx hb dX7_isWord_12 rfl (lv_at hl 1 rfl) ?_
    refine z_i2l hx hb dX7_isWord_13 (by omega) ?_
    refine lv_lconst (v := lN 1) hx hb dX7_isWord_14 rfl ?_
    refine lv_ldc2 (v := lN 7) hx hb hown (hts (.constantLong RX7 109 7) (by decide +kernel)) dX7_isWord_15 ?_
    refine k_S (As := [.long (lI y), .long (lI (((1 : Nat) : Int))), .long (lI (((7 : Nat) : Int)))]) (wr := []) ⟨hx, hb, hml, hown, hts⟩ (c_X7_in l D cI cC y (((1 : Nat) : Int)) (((7 : Nat) : Int)) (by omega) (by omega) (by omega)) (cwS 3 hts gX7_isWord_X7_in rfl rfl rfl (by decide +kernel) ⟨Nat.le_of_ble_eq_true rfl, Nat.le_of_ble_eq_true rfl⟩) rfl hl.1 (by simp only [nI_iI, lN_lI]; rfl) (Nat.le_of_ble_eq_true rfl) dX7_isWord_18 ⟨Nat.zero_le _, Nat.zero_le _⟩ hN hK hP hD hS hA [] [] rfl rfl ⟨rfl, rfl, by decide⟩ (fun r7 u H locs w8 hP hD hS => ?_)
    obtain ⟨rfl, h9, h10⟩ | ⟨rfl, h11⟩ : (r7 = (nI 1) ∧ (((1 : Nat) : Int)) ≤ y ∧ y ≤ (((7 : Nat) : Int))) ∨ (r7 = (nI 0) ∧ (y < (((1 : Nat) : Int)) ∨ (((7 : Nat) : Int)) < y)) := w8
    · refine x_if_eq (tgt := 40) hx hb dX7_isWord_21 (by decide) (by omega) (fun h12 => False.elim (by omega)) (fun h12 => ?_)
      refine lv_iload_n hx hb dX7_isWord_24 rfl (lv_at hl 2 rfl) ?_
      refine z_i2l hx hb dX7_isWord_25 (by omega) ?_
      refine lv_lconst (v := lN 1) hx hb dX7_isWord_26 rfl ?_
      refine lv_ldc2 (v := lN 60) hx hb hown (hts (.constantLong RX7 111 60) (by decide +kernel)) dX7_isWord_27 ?_
      refine k_S (As := [.long (lI z), .long (lI (((1 : Nat) : Int))), .long (lI (((60 : Nat) : Int)))]) (wr := []) ⟨hx, hb, hml, hown, hts⟩ (c_X7_in l D cI cC z (((1 : Nat) : Int)) (((60 : Nat) : Int)) (by omega) (by omega) (by omega)) (cwS 3 hts gX7_isWord_X7_in rfl rfl rfl (by decide +kernel) ⟨Nat.le_of_ble_eq_true rfl, Nat.le_of_ble_eq_true rfl⟩) rfl hl.1 (by simp only [nI_iI, lN_lI]; rfl) (Nat.le_of_ble_eq_true rfl) dX7_isWord_30 ⟨Nat.zero_le _, Nat.zero_le _⟩ hN hK hP hD hS hA [] [] rfl rfl ⟨rfl, rfl, by decide⟩ (fun r13 u H locs w14 hP hD hS => ?_)
      obtain ⟨rfl, h15, h16⟩ | ⟨rfl, h17⟩ : (r13 = (nI 1) ∧ (((1 : Nat) : Int)) ≤ z ∧ z ≤ (((60 : Nat) : Int))) ∨ (r13 = (nI 0) ∧ (z < (((1 : Nat) : Int)) ∨ (((60 : Nat) : Int)) < z)) := w14
      · refine x_if_eq (tgt := 40) hx hb dX7_isWord_33 (by decide) (by omega) (fun h18 => False.elim (by omega)) (fun h18 => ?_)
        refine lv_iconst (v := (nI 1)) hx hb dX7_isWord_36 (by decide) ?_
        refine lv_goto (tgt := 41) hx hb dX7_isWord_37 (by decide) ?_
        exact x_iret hx hb hr hlocks dX7_isWord_41 rfl (post := fun (r : Int32) (_ : Unit) => (r = (nI 1) ∧ 0 ≤ x ∧ x ≤ 30 ∧ 1 ≤ y ∧ y ≤ 7 ∧ 1 ≤ z ∧ z ≤ 60) ∨ (r = (nI 0) ∧ (x < 0 ∨ 30 < x ∨ y < 1 ∨ 7 < y ∨ z < 1 ∨ 60 < z))) (w1 := fun (_ : Unit) => []) () (Or.inl ⟨rfl, (by omega), (by omega), (by omega), (by omega), (by omega), (by omega)⟩) hK hP hD hS
      · refine x_if_eq (tgt := 40) hx hb dX7_isWord_33 (by decide) (by omega) (fun h19 => ?_) (fun h19 => False.elim (by omega))
        refine lv_iconst (v := (nI 0)) hx hb dX7_isWord_40 (by decide) ?_
        exact x_iret hx hb hr hlocks dX7_isWord_41 rfl (post := fun (r : Int32) (_ : Unit) => (r = (nI 1) ∧ 0 ≤ x ∧ x ≤ 30 ∧ 1 ≤ y ∧ y ≤ 7 ∧ 1 ≤ z ∧ z ≤ 60) ∨ (r = (nI 0) ∧ (x < 0 ∨ 30 < x ∨ y < 1 ∨ 7 < y ∨ z < 1 ∨ 60 < z))) (w1 := fun (_ : Unit) => []) () (Or.inr ⟨rfl, (by omega)⟩) hK hP hD hS
    · refine x_if_eq (tgt := 40) hx hb dX7_isWord_21 (by decide) (by omega) (fun h20 => ?_) (fun h20 => False.elim (by omega))
      refine lv_iconst (v := (nI 0)) hx hb dX7_isWord_40 (by decide) ?_
      exact x_iret hx hb hr hlocks dX7_isWord_41 rfl (post := fun (r : Int32) (_ : Unit) => (r = (nI 1) ∧ 0 ≤ x ∧ x ≤ 30 ∧ 1 ≤ y ∧ y ≤ 7 ∧ 1 ≤ z ∧ z ≤ 60) ∨ (r = (nI 0) ∧ (x < 0 ∨ 30 < x ∨ y < 1 ∨ 7 < y ∨ z < 1 ∨ 60 < z))) (w1 := fun (_ : Unit) => []) () (Or.inr ⟨rfl, (by omega)⟩) hK hP hD hS
  · refine x_if_eq (tgt := 40) hx hb dX7_isWord_9 (by decide) (by omega) (fun h21 => ?_) (fun h21 => False.elim (by omega))
    refine lv_iconst (v := (nI 0)) hx hb dX7_isWord_40 (by decide) ?_
    exact x_iret hx hb hr hlocks dX7_isWord_41 rfl (post := fun (r : Int32) (_ : Unit) => (r = (nI 1) ∧ 0 ≤ x ∧ x ≤ 30 ∧ 1 ≤ y ∧ y ≤ 7 ∧ 1 ≤ z ∧ z ≤ 60) ∨ (r = (nI 0) ∧ (x < 0 ∨ 30 < x ∨ y < 1 ∨ 7 < y ∨ z < 1 ∨ 60 < z))) (w1 := fun (_ : Unit) => []) () (Or.inr ⟨rfl, (by omega)⟩) hK hP hD hS

set_option maxRecDepth 100000 in
set_option maxHeartbeats 4000000 in
theorem c_X7_noCanyon (l : Launch) (D : va_G) (cI cC : ClassId) (rr : Nat) (ad : Nat → Nat) (len : Nat) (kp : Nat) (uo : Nat) (tm : Nat) (em : Nat) (pc0 : Nat) (fm : Nat → Nat) (ai : Nat → Nat) (wma : Nat → Nat) (spa : Nat → Nat) (hea : Nat → Nat) (sna : Nat → Nat) (b : Nat) (hb2 : b < 2) : mtV l D cI cC yX7_noCanyon wsX7_noCanyon ({ frames := 0, cells := 0, slots := 0, locals := 0 }) [.ref rr, .int (nI b)] [(rr, eMod ad len kp uo tm em pc0), (ad 2, eArr cI 2 fm), (ad 6, eArr cI 2 ai), (ad 7, eArr cI 4 wma), (ad 11, eArr cI 4 spa), (ad 12, eArr cI 4 hea), (ad 13, eArr cI 4 sna)] (fun (_ : Unit) => True) (fun (_ : Unit) => [(rr, eMod ad len kp uo tm em pc0), (ad 2, eArr cI 2 (upN fm b 0)), (ad 6, eArr cI 2 (upN ai b 1)), (ad 7, eArr cI 4 (upN wma b 0)), (ad 11, eArr cI 4 (upN spa b 0)), (ad 12, eArr cI 4 (upN hea b 10)), (ad 13, eArr cI 4 (upN sna b 0))]) := by
  refine mtV_of (cc := cX7_noCanyon) (maxL := 2) (ret := none) (by decide) rfl rfl ?_
  intro p e s m below meth c A hx hb hml hr hts hown hlocks hN hA hK hP hD hS ls hl
  have hown : s.vm.findClass RX7 = some m.cls := hown
  have hl : lv_has ls 2 [(0, .ref rr), (1, .int (nI b))] := hl
  obtain ⟨H, hHe⟩ : ∃ H, H = s.heap := ⟨_, rfl⟩
  rw [← hHe] at hP ⊢
  have hS : va_S A s.heap H [] := by rw [hHe]; exact va_S.rf
  have fl13 := hts (.fieldLink RX7 13 "EchoPaysRentModel" "faceMany" "[I") (by decide +kernel)
  have inX7 : ∀ w ∈ wsX70, w ∈ wsX7_noCanyon := by decide +kernel
  have fl25 := hts (.fieldLink RX7 25 "EchoPaysRentModel" "air" "[I") (by decide +kernel)
  have fl28 := hts (.fieldLink RX7 28 "EchoPaysRentModel" "wordMany" "[I") (by decide +kernel)
  have fl40 := hts (.fieldLink RX7 40 "EchoPaysRentModel" "speaker" "[I") (by decide +kernel)
  have fl43 := hts (.fieldLink RX7 43 "EchoPaysRentModel" "hearer" "[I") (by decide +kernel)
  have fl46 := hts (.fieldLink RX7 46 "EchoPaysRentModel" "snow" "[I") (by decide +kernel)
  refine lv_aload_n hx hb dX7_noCanyon_0 rfl (lv_at hl 0 rfl) ?_
  refine va_get (D := D) (ci := 7) (v := .ref (ad 2)) (C := RX7) (T := TX7) (N := 28) hx hb hts inX7 hown hK hP 0 rfl rfl 2 (by decide) fl13 (fun _ h9 => h9) rfl dX7_noCanyon_1 ?_
  refine lv_iload_n hx hb dX7_noCanyon_4 rfl (lv_at hl 1 rfl) ?_
  refine lv_iconst (v := (nI 0)) hx hb dX7_noCanyon_5 (by decide) ?_
  refine x_iast (A := A) hx hb hK hP hD hS 1 0 rfl rfl dX7_noCanyon_6 (by omega) (by omega) (fun H locs hP hD hS => ?_)
  have hP : va_P D vwCl [(rr, eMod ad len kp uo tm em pc0), (ad 2, eArr cI 2 (upN fm b 0)), (ad 6, eArr cI 2 ai), (ad 7, eArr cI 4 wma), (ad 11, eArr cI 4 spa), (ad 12, eArr cI 4 hea), (ad 13, eArr cI 4 sna)] H := by have h := hP; rw [upd_nI] at h; exact h
  have hD : va_D A [(rr, eMod ad len kp uo tm em pc0), (ad 2, eArr cI 2 (upN fm b 0)), (ad 6, eArr cI 2 ai), (ad 7, eArr cI 4 wma), (ad 11, eArr cI 4 spa), (ad 12, eArr cI 4 hea), (ad 13, eArr cI 4 sna)] := by have h := hD; rw [upd_nI] at h; exact h
  refine lv_aload_n hx hb dX7_noCanyon_7 rfl (lv_at hl 0 rfl) ?_
  refine va_get (D := D) (ci := 7) (v := .ref (ad 6)) (C := RX7) (T := TX7) (N := 28) hx hb hts inX7 hown hK hP 0 rfl rfl 6 (by decide) fl25 (fun _ h9 => h9) rfl dX7_noCanyon_8 ?_
  refine lv_iload_n hx hb dX7_noCanyon_11 rfl (lv_at hl 1 rfl) ?_
  refine lv_iconst (v := (nI 1)) hx hb dX7_noCanyon_12 (by decide) ?_
  refine x_iast (A := A) hx hb hK hP hD hS 2 0 rfl rfl dX7_noCanyon_13 (by omega) (by omega) (fun H locs hP hD hS => ?_)
  have hP : va_P D vwCl [(rr, eMod ad len kp uo tm em pc0), (ad 2, eArr cI 2 (upN fm b 0)), (ad 6, eArr cI 2 (upN ai b 1)), (ad 7, eArr cI 4 wma), (ad 11, eArr cI 4 spa), (ad 12, eArr cI 4 hea), (ad 13, eArr cI 4 sna)] H := by have h := hP; rw [upd_nI] at h; exact h
  have hD : va_D A [(rr, eMod ad len kp uo tm em pc0), (ad 2, eArr cI 2 (upN fm b 0)), (ad 6, eArr cI 2 (upN ai b 1)), (ad 7, eArr cI 4 wma), (ad 11, eArr cI 4 spa), (ad 12, eArr cI 4 hea), (ad 13, eArr cI 4 sna)] := by have h := hD; rw [upd_nI] at h; exact h
  refine lv_aload_n hx hb dX7_noCanyon_14 rfl (lv_at hl 0 rfl) ?_
  refine va_get (D := D) (ci := 7) (v := .ref (ad 7)) (C := RX7) (T := TX7) (N := 28) hx hb hts inX7 hown hK hP 0 rfl rfl 7 (by decide) fl28 (fun _ h9 => h9) rfl dX7_noCanyon_15 ?_
  refine lv_iload_n hx hb dX7_noCanyon_18 rfl (lv_at hl 1 rfl) ?_
  refine lv_iconst (v := (nI 0)) hx hb dX7_noCanyon_19 (by decide) ?_
  refine x_iast (A := A) hx hb hK hP hD hS 3 0 rfl rfl dX7_noCanyon_20 (by omega) (by omega) (fun H locs hP hD hS => ?_)
  have hP : va_P D vwCl [(rr, eMod ad len kp uo tm em pc0), (ad 2, eArr cI 2 (upN fm b 0)), (ad 6, eArr cI 2 (upN ai b 1)), (ad 7, eArr cI 4 (upN wma b 0)), (ad 11, eArr cI 4 spa), (ad 12, eArr cI 4 hea), (ad 13, eArr cI 4 sna)] H := by have h := hP; rw [upd_nI] at h; exact h
  have hD : va_D A [(rr, eMod ad len kp uo tm em pc0), (ad 2, eArr cI 2 (upN fm b 0)), (ad 6, eArr cI 2 (upN ai b 1)), (ad 7, eArr cI 4 (upN wma b 0)), (ad 11, eArr cI 4 spa), (ad 12, eArr cI 4 hea), (ad 13, eArr cI 4 sna)] := by have h := hD; rw [upd_nI] at h; exact h
  refine lv_aload_n hx hb dX7_noCanyon_21 rfl (lv_at hl 0 rfl) ?_
  refine va_get (D := D) (ci := 7) (v := .ref (ad 11)) (C := RX7) (T := TX7) (N := 28) hx hb hts inX7 hown hK hP 0 rfl rfl 11 (by decide) fl40 (fun _ h9 => h9) rfl dX7_noCanyon_22 ?_
  refine lv_iload_n hx hb dX7_noCanyon_25 rfl (lv_at hl 1 rfl) ?_
  refine lv_iconst (v := (nI 0)) hx hb dX7_noCanyon_26 (by decide) ?_
  refine x_iast (A := A) hx hb hK hP hD hS 4 0 rfl rfl dX7_noCanyon_27 (by omega) (by omega) (fun H locs hP hD hS => ?_)
  have hP : va_P D vwCl [(rr, eMod ad len kp uo tm em pc0), (ad 2, eArr cI 2 (upN fm b 0)), (ad 6, eArr cI 2 (upN ai b 1)), (ad 7, eArr cI 4 (upN wma b 0)), (ad 11, eArr cI 4 (upN spa b 0)), (ad 12, eArr cI 4 hea), (ad 13, eArr cI 4 sna)] H := by have h := hP; rw [upd_nI] at h; exact h
  have hD : va_D A [(rr, eMod ad len kp uo tm em pc0), (ad 2, eArr cI 2 (upN fm b 0)), (ad 6, eArr cI 2 (upN ai b 1)), (ad 7, eArr cI 4 (upN wma b 0)), (ad 11, eArr cI 4 (upN spa b 0)), (ad 12, eArr cI 4 hea), (ad 13, eArr cI 4 sna)] := by have h := hD; rw [upd_nI] at h; exact h
  refine lv_aload_n hx hb dX7_noCanyon_28 rfl (lv_at hl 0 rfl) ?_
  refine va_get (D := D) (ci := 7) (v := .ref (ad 12)) (C := RX7) (T := TX7) (N := 28) hx hb hts inX7 hown hK hP 0 rfl rfl 12 (by decide) fl43 (fun _ h9 => h9) rfl dX7_noCanyon_29 ?_
  refine lv_iload_n hx hb dX7_noCanyon_32 rfl (lv_at hl 1 rfl) ?_
  refine lv_bipush (v := (nI 10)) hx hb dX7_noCanyon_33 (by decide) ?_
  refine x_iast (A := A) hx hb hK hP hD hS 5 0 rfl rfl dX7_noCanyon_35 (by omega) (by omega) (fun H locs hP hD hS => ?_)
  have hP : va_P D vwCl [(rr, eMod ad len kp uo tm em pc0), (ad 2, eArr cI 2 (upN fm b 0)), (ad 6, eArr cI 2 (upN ai b 1)), (ad 7, eArr cI 4 (upN wma b 0)), (ad 11, eArr cI 4 (upN spa b 0)), (ad 12, eArr cI 4 (upN hea b 10)), (ad 13, eArr cI 4 sna)] H := by have h := hP; rw [upd_nI] at h; exact h
  have hD : va_D A [(rr, eMod ad len kp uo tm em pc0), (ad 2, eArr cI 2 (upN fm b 0)), (ad 6, eArr cI 2 (upN ai b 1)), (ad 7, eArr cI 4 (upN wma b 0)), (ad 11, eArr cI 4 (upN spa b 0)), (ad 12, eArr cI 4 (upN hea b 10)), (ad 13, eArr cI 4 sna)] := by have h := hD; rw [upd_nI] at h; exact h
  refine lv_aload_n hx hb dX7_noCanyon_36 rfl (lv_at hl 0 rfl) ?_
  refine va_get (D := D) (ci := 7) (v := .ref (ad 13)) (C := RX7) (T := TX7) (N := 28) hx hb hts inX7 hown hK hP 0 rfl rfl 13 (by decide) fl46 (fun _ h9 => h9) rfl dX7_noCanyon_37 ?_
  refine lv_iload_n hx hb dX7_noCanyon_40 rfl (lv_at hl 1 rfl) ?_
  refine lv_iconst (v := (nI 0)) hx hb dX7_noCanyon_41 (by decide) ?_
  refine x_iast (A := A) hx hb hK hP hD hS 6 0 rfl rfl dX7_noCanyon_42 (by omega) (by omega) (fun H locs hP hD hS => ?_)
  have hP : va_P D vwCl [(rr, eMod ad len kp uo tm em pc0), (ad 2, eArr cI 2 (upN fm b 0)), (ad 6, eArr cI 2 (upN ai b 1)), (ad 7, eArr cI 4 (upN wma b 0)), (ad 11, eArr cI 4 (upN spa b 0)), (ad 12, eArr cI 4 (upN hea b 10)), (ad 13, eArr cI 4 (upN sna b 0))] H := by have h := hP; rw [upd_nI] at h; exact h
  have hD : va_D A [(rr, eMod ad len kp uo tm em pc0), (ad 2, eArr cI 2 (upN fm b 0)), (ad 6, eArr cI 2 (upN ai b 1)), (ad 7, eArr cI 4 (upN wma b 0)), (ad 11, eArr cI 4 (upN spa b 0)), (ad 12, eArr cI 4 (upN hea b 10)), (ad 13, eArr cI 4 (upN sna b 0))] := by have h := hD; rw [upd_nI] at h; exact h
  exact x_vret hx hb hr hlocks dX7_noCanyon_43 (post := fun (_ : Unit) => True) (w1 := fun (_ : Unit) => [(rr, eMod ad len kp uo tm em pc0), (ad 2, eArr cI 2 (upN fm b 0)), (ad 6, eArr cI 2 (upN ai b 1)), (ad 7, eArr cI 4 (upN wma b 0)), (ad 11, eArr cI 4 (upN spa b 0)), (ad 12, eArr cI 4 (upN hea b 10)), (ad 13, eArr cI 4 (upN sna b 0))]) () trivial hK hP hD hS

set_option maxRecDepth 100000 in
set_option maxHeartbeats 4000000 in
theorem c_X7_addWord (l : Launch) (D : va_G) (cI cC : ClassId) (rr : Nat) (ad : Nat → Nat) (len : Nat) (kp : Nat) (uo : Nat) (tm : Nat) (em : Nat) (pc0 : Nat) (wma : Nat → Nat) (be : Nat → Nat) (va : Nat → Nat) (lo : Nat → Nat) (b : Nat) (t : Nat) (v : Nat) (lv : Nat) (hb2 : b < 4 ∧ wma b < 8) : mtV l D cI cC yX7_addWord wsX7_addWord ({ frames := 0, cells := 0, slots := 0, locals := 0 }) [.ref rr, .int (nI b), .int (nI t), .int (nI v), .int (nI lv)] [(rr, eMod ad len kp uo tm em pc0), (ad 7, eArr cI 4 wma), (ad 8, eArr cI 32 be), (ad 9, eArr cI 32 va), (ad 10, eArr cI 32 lo)] (fun (_ : Unit) => True) (fun (_ : Unit) => [(rr, eMod ad len kp uo tm em pc0), (ad 7, eArr cI 4 (upN wma b (wma b + 1))), (ad 8, eArr cI 32 (upN be (8 * b + wma b) t)), (ad 9, eArr cI 32 (upN va (8 * b + wma b) v)), (ad 10, eArr cI 32 (upN lo (8 * b + wma b) lv))]) := by
  refine mtV_of (cc := cX7_addWord) (maxL := 5) (ret := none) (by decide) rfl rfl ?_
  intro p e s m below meth c A hx hb hml hr hts hown hlocks hN hA hK hP hD hS ls hl
  have hown : s.vm.findClass RX7 = some m.cls := hown
  have hl : lv_has ls 5 [(0, .ref rr), (1, .int (nI b)), (2, .int (nI t)), (3, .int (nI v)), (4, .int (nI lv))] := hl
  obtain ⟨H, hHe⟩ : ∃ H, H = s.heap := ⟨_, rfl⟩
  rw [← hHe] at hP ⊢
  have hS : va_S A s.heap H [] := by rw [hHe]; exact va_S.rf
  have fl31 := hts (.fieldLink RX7 31 "EchoPaysRentModel" "beats" "[I") (by decide +kernel)
  have inX7 : ∀ w ∈ wsX70, w ∈ wsX7_addWord := by decide +kernel
  have fl28 := hts (.fieldLink RX7 28 "EchoPaysRentModel" "wordMany" "[I") (by decide +kernel)
  have fl34 := hts (.fieldLink RX7 34 "EchoPaysRentModel" "values" "[I") (by decide +kernel)
  have fl37 := hts (.fieldLink RX7 37 "EchoPaysRentModel" "louds" "[I") (by decide +kernel)
  refine lv_aload_n hx hb dX7_addWord_0 rfl (lv_at hl 0 rfl) ?_
  refine va_get (D := D) (ci := 7) (v := .ref (ad 8)) (C := RX7) (T := TX7) (N := 28) hx hb hts inX7 hown hK hP 0 rfl rfl 8 (by decide) fl31 (fun _ h9 => h9) rfl dX7_addWord_1 ?_
  refine lv_bipush (v := (nI 8)) hx hb dX7_addWord_4 (by decide) ?_
  refine lv_iload_n hx hb dX7_addWord_6 rfl (lv_at hl 1 rfl) ?_
  refine x_imul hx hb dX7_addWord_7 ?_
  refine lv_aload_n hx hb dX7_addWord_8 rfl (lv_at hl 0 rfl) ?_
  refine va_get (D := D) (ci := 7) (v := .ref (ad 7)) (C := RX7) (T := TX7) (N := 28) hx hb hts inX7 hown hK hP 0 rfl rfl 7 (by decide) fl28 (fun _ h9 => h9) rfl dX7_addWord_9 ?_
  refine lv_iload_n hx hb dX7_addWord_12 rfl (lv_at hl 1 rfl) ?_
  refine x_iald (A := A) hx hb hK hP 1 0 rfl rfl dX7_addWord_13 (by omega) (by omega) ?_
  refine x_iadd hx hb dX7_addWord_14 ?_
  refine lv_iload_n hx hb dX7_addWord_15 rfl (lv_at hl 2 rfl) ?_
  refine x_iast (A := A) hx hb hK hP hD hS 2 0 rfl rfl dX7_addWord_16 (by omega) (by omega) (fun H locs hP hD hS => ?_)
  have hP : va_P D vwCl [(rr, eMod ad len kp uo tm em pc0), (ad 7, eArr cI 4 wma), (ad 8, eArr cI 32 (upN be (8 * b + wma b) t)), (ad 9, eArr cI 32 va), (ad 10, eArr cI 32 lo)] H := by have h := hP; rw [upd_nI] at h; exact h
  have hD : va_D A [(rr, eMod ad len kp uo tm em pc0), (ad 7, eArr cI 4 wma), (ad 8, eArr cI 32 (upN be (8 * b + wma b) t)), (ad 9, eArr cI 32 va), (ad 10, eArr cI 32 lo)] := by have h := hD; rw [upd_nI] at h; exact h
  refine lv_aload_n hx hb dX7_addWord_17 rfl (lv_at hl 0 rfl) ?_
  refine va_get (D := D) (ci := 7) (v := .ref (ad 9)) (C := RX7) (T := TX7) (N := 28) hx hb hts inX7 hown hK hP 0 rfl rfl 9 (by decide) fl34 (fun _ h9 => h9) rfl dX7_addWord_18 ?_
  refine lv_bipush (v := (nI 8)) hx hb dX7_addWord_21 (by decide) ?_
  refine lv_iload_n hx hb dX7_addWord_23 rfl (lv_at hl 1 rfl) ?_
  refine x_imul hx hb dX7_addWord_24 ?_
  refine lv_aload_n hx hb dX7_addWord_25 rfl (lv_at hl 0 rfl) ?_
  refine va_get (D := D) (ci := 7) (v := .ref (ad 7)) (C := RX7) (T := TX7) (N := 28) hx hb hts inX7 hown hK hP 0 rfl rfl 7 (by decide) fl28 (fun _ h9 => h9) rfl dX7_addWord_26 ?_
  refine lv_iload_n hx hb dX7_addWord_29 rfl (lv_at hl 1 rfl) ?_
  refine x_iald (A := A) hx hb hK hP 1 0 rfl rfl dX7_addWord_30 (by omega) (by omega) ?_
  refine x_iadd hx hb dX7_addWord_31 ?_
  refine lv_iload_n hx hb dX7_addWord_32 rfl (lv_at hl 3 rfl) ?_
  refine x_iast (A := A) hx hb hK hP hD hS 3 0 rfl rfl dX7_addWord_33 (by omega) (by omega) (fun H locs hP hD hS => ?_)
  have hP : va_P D vwCl [(rr, eMod ad len kp uo tm em pc0), (ad 7, eArr cI 4 wma), (ad 8, eArr cI 32 (upN be (8 * b + wma b) t)), (ad 9, eArr cI 32 (upN va (8 * b + wma b) v)), (ad 10, eArr cI 32 lo)] H := by have h := hP; rw [upd_nI] at h; exact h
  have hD : va_D A [(rr, eMod ad len kp uo tm em pc0), (ad 7, eArr cI 4 wma), (ad 8, eArr cI 32 (upN be (8 * b + wma b) t)), (ad 9, eArr cI 32 (upN va (8 * b + wma b) v)), (ad 10, eArr cI 32 lo)] := by have h := hD; rw [upd_nI] at h; exact h
  refine lv_aload_n hx hb dX7_addWord_34 rfl (lv_at hl 0 rfl) ?_
  refine va_get (D := D) (ci := 7) (v := .ref (ad 10)) (C := RX7) (T := TX7) (N := 28) hx hb hts inX7 hown hK hP 0 rfl rfl 10 (by decide) fl37 (fun _ h9 => h9) rfl dX7_addWord_35 ?_
  refine lv_bipush (v := (nI 8)) hx hb dX7_addWord_38 (by decide) ?_
  refine lv_iload_n hx hb dX7_addWord_40 rfl (lv_at hl 1 rfl) ?_
  refine x_imul hx hb dX7_addWord_41 ?_
  refine lv_aload_n hx hb dX7_addWord_42 rfl (lv_at hl 0 rfl) ?_
  refine va_get (D := D) (ci := 7) (v := .ref (ad 7)) (C := RX7) (T := TX7) (N := 28) hx hb hts inX7 hown hK hP 0 rfl rfl 7 (by decide) fl28 (fun _ h9 => h9) rfl dX7_addWord_43 ?_
  refine lv_iload_n hx hb dX7_addWord_46 rfl (lv_at hl 1 rfl) ?_
  refine x_iald (A := A) hx hb hK hP 1 0 rfl rfl dX7_addWord_47 (by omega) (by omega) ?_
  refine x_iadd hx hb dX7_addWord_48 ?_
  refine lv_iload hx hb dX7_addWord_49 (lv_at hl 4 rfl) ?_
  refine x_iast (A := A) hx hb hK hP hD hS 4 0 rfl rfl dX7_addWord_51 (by omega) (by omega) (fun H locs hP hD hS => ?_)
  have hP : va_P D vwCl [(rr, eMod ad len kp uo tm em pc0), (ad 7, eArr cI 4 wma), (ad 8, eArr cI 32 (upN be (8 * b + wma b) t)), (ad 9, eArr cI 32 (upN va (8 * b + wma b) v)), (ad 10, eArr cI 32 (upN lo (8 * b + wma b) lv))] H := by have h := hP; rw [upd_nI] at h; exact h
  have hD : va_D A [(rr, eMod ad len kp uo tm em pc0), (ad 7, eArr cI 4 wma), (ad 8, eArr cI 32 (upN be (8 * b + wma b) t)), (ad 9, eArr cI 32 (upN va (8 * b + wma b) v)), (ad 10, eArr cI 32 (upN lo (8 * b + wma b) lv))] := by have h := hD; rw [upd_nI] at h; exact h
  refine lv_aload_n hx hb dX7_addWord_52 rfl (lv_at hl 0 rfl) ?_
  refine va_get (D := D) (ci := 7) (v := .ref (ad 7)) (C := RX7) (T := TX7) (N := 28) hx hb hts inX7 hown hK hP 0 rfl rfl 7 (by decide) fl28 (fun _ h9 => h9) rfl dX7_addWord_53 ?_
  refine lv_iload_n hx hb dX7_addWord_56 rfl (lv_at hl 1 rfl) ?_
  refine lv_dup2_11 hx hb dX7_addWord_57 rfl rfl ?_
  refine x_iald (A := A) hx hb hK hP 1 0 rfl rfl dX7_addWord_58 (by omega) (by omega) ?_
  refine lv_iconst (v := (nI 1)) hx hb dX7_addWord_59 (by decide) ?_
  refine x_iadd hx hb dX7_addWord_60 ?_
  refine x_iast (A := A) hx hb hK hP hD hS 1 0 rfl rfl dX7_addWord_61 (by omega) (by omega) (fun H locs hP hD hS => ?_)
  have hP : va_P D vwCl [(rr, eMod ad len kp uo tm em pc0), (ad 7, eArr cI 4 (upN wma b (wma b + 1))), (ad 8, eArr cI 32 (upN be (8 * b + wma b) t)), (ad 9, eArr cI 32 (upN va (8 * b + wma b) v)), (ad 10, eArr cI 32 (upN lo (8 * b + wma b) lv))] H := by have h := hP; rw [upd_nI] at h; exact h
  have hD : va_D A [(rr, eMod ad len kp uo tm em pc0), (ad 7, eArr cI 4 (upN wma b (wma b + 1))), (ad 8, eArr cI 32 (upN be (8 * b + wma b) t)), (ad 9, eArr cI 32 (upN va (8 * b + wma b) v)), (ad 10, eArr cI 32 (upN lo (8 * b + wma b) lv))] := by have h := hD; rw [upd_nI] at h; exact h
  exact x_vret hx hb hr hlocks dX7_addWord_62 (post := fun (_ : Unit) => True) (w1 := fun (_ : Unit) => [(rr, eMod ad len kp uo tm em pc0), (ad 7, eArr cI 4 (upN wma b (wma b + 1))), (ad 8, eArr cI 32 (upN be (8 * b + wma b) t)), (ad 9, eArr cI 32 (upN va (8 * b + wma b) v)), (ad 10, eArr cI 32 (upN lo (8 * b + wma b) lv))]) () trivial hK hP hD hS

set_option maxRecDepth 100000 in
set_option maxHeartbeats 4000000 in
theorem c_X7_copy (l : Launch) (D : va_G) (cI cC : ClassId) (rr : Nat) (ad : Nat → Nat) (len : Nat) (kp : Nat) (uo : Nat) (tm : Nat) (em : Nat) (pc0 : Nat) (wma : Nat → Nat) (be : Nat → Nat) (va : Nat → Nat) (lo : Nat → Nat) (spa : Nat → Nat) (hea : Nat → Nat) (sna : Nat → Nat) (a : Nat) (b : Nat) (hab : a < 4 ∧ b < 4 ∧ a ≠ b) : mtV l D cI cC yX7_copy wsX7_copy ({ frames := 0, cells := 0, slots := 0, locals := 0 }) [.ref rr, .int (nI a), .int (nI b)] [(rr, eMod ad len kp uo tm em pc0), (ad 7, eArr cI 4 wma), (ad 8, eArr cI 32 be), (ad 9, eArr cI 32 va), (ad 10, eArr cI 32 lo), (ad 11, eArr cI 4 spa), (ad 12, eArr cI 4 hea), (ad 13, eArr cI 4 sna)] (fun (_ : Unit) => True) (fun (_ : Unit) => [(rr, eMod ad len kp uo tm em pc0), (ad 7, eArr cI 4 (upN wma b (wma a))), (ad 8, eArr cI 32 (cp8 be a b 8)), (ad 9, eArr cI 32 (cp8 va a b 8)), (ad 10, eArr cI 32 (cp8 lo a b 8)), (ad 11, eArr cI 4 (upN spa b (spa a))), (ad 12, eArr cI 4 (upN hea b (hea a))), (ad 13, eArr cI 4 (upN sna b (sna a)))]) := by
  refine mtV_of (cc := cX7_copy) (maxL := 4) (ret := none) (by decide) rfl rfl ?_
  intro p e s m below meth c A hx hb hml hr hts hown hlocks hN hA hK hP hD hS ls hl
  have hown : s.vm.findClass RX7 = some m.cls := hown
  have hl : lv_has ls 4 [(0, .ref rr), (1, .int (nI a)), (2, .int (nI b))] := hl
  obtain ⟨H, hHe⟩ : ∃ H, H = s.heap := ⟨_, rfl⟩
  rw [← hHe] at hP ⊢
  have hS : va_S A s.heap H [] := by rw [hHe]; exact va_S.rf
  have fl28 := hts (.fieldLink RX7 28 "EchoPaysRentModel" "wordMany" "[I") (by decide +kernel)
  have inX7 : ∀ w ∈ wsX70, w ∈ wsX7_copy := by decide +kernel
  have fl40 := hts (.fieldLink RX7 40 "EchoPaysRentModel" "speaker" "[I") (by decide +kernel)
  have fl43 := hts (.fieldLink RX7 43 "EchoPaysRentModel" "hearer" "[I") (by decide +kernel)
  have fl46 := hts (.fieldLink RX7 46 "EchoPaysRentModel" "snow" "[I") (by decide +kernel)
  have fl31 := hts (.fieldLink RX7 31 "EchoPaysRentModel" "beats" "[I") (by decide +kernel)
  have fl34 := hts (.fieldLink RX7 34 "EchoPaysRentModel" "values" "[I") (by decide +kernel)
  have fl37 := hts (.fieldLink RX7 37 "EchoPaysRentModel" "louds" "[I") (by decide +kernel)
  refine lv_aload_n hx hb dX7_copy_0 rfl (lv_at hl 0 rfl) ?_
  refine va_get (D := D) (ci := 7) (v := .ref (ad 7)) (C := RX7) (T := TX7) (N := 28) hx hb hts inX7 hown hK hP 0 rfl rfl 7 (by decide) fl28 (fun _ h9 => h9) rfl dX7_copy_1 ?_
  refine lv_iload_n hx hb dX7_copy_4 rfl (lv_at hl 2 rfl) ?_
  refine lv_aload_n hx hb dX7_copy_5 rfl (lv_at hl 0 rfl) ?_
  refine va_get (D := D) (ci := 7) (v := .ref (ad 7)) (C := RX7) (T := TX7) (N := 28) hx hb hts inX7 hown hK hP 0 rfl rfl 7 (by decide) fl28 (fun _ h9 => h9) rfl dX7_copy_6 ?_
  refine lv_iload_n hx hb dX7_copy_9 rfl (lv_at hl 1 rfl) ?_
  refine x_iald (A := A) hx hb hK hP 1 0 rfl rfl dX7_copy_10 (by omega) (by omega) ?_
  refine x_iast (A := A) hx hb hK hP hD hS 1 0 rfl rfl dX7_copy_11 (by omega) (by omega) (fun H locs hP hD hS => ?_)
  have hP : va_P D vwCl [(rr, eMod ad len kp uo tm em pc0), (ad 7, eArr cI 4 (upN wma b (wma a))), (ad 8, eArr cI 32 be), (ad 9, eArr cI 32 va), (ad 10, eArr cI 32 lo), (ad 11, eArr cI 4 spa), (ad 12, eArr cI 4 hea), (ad 13, eArr cI 4 sna)] H := by have h := hP; rw [upd_nI] at h; exact h
  have hD : va_D A [(rr, eMod ad len kp uo tm em pc0), (ad 7, eArr cI 4 (upN wma b (wma a))), (ad 8, eArr cI 32 be), (ad 9, eArr cI 32 va), (ad 10, eArr cI 32 lo), (ad 11, eArr cI 4 spa), (ad 12, eArr cI 4 hea), (ad 13, eArr cI 4 sna)] := by have h := hD; rw [upd_nI] at h; exact h
  refine lv_aload_n hx hb dX7_copy_12 rfl (lv_at hl 0 rfl) ?_
  refine va_get (D := D) (ci := 7) (v := .ref (ad 11)) (C := RX7) (T := TX7) (N := 28) hx hb hts inX7 hown hK hP 0 rfl rfl 11 (by decide) fl40 (fun _ h9 => h9) rfl dX7_copy_13 ?_
  refine lv_iload_n hx hb dX7_copy_16 rfl (lv_at hl 2 rfl) ?_
  refine lv_aload_n hx hb dX7_copy_17 rfl (lv_at hl 0 rfl) ?_
  refine va_get (D := D) (ci := 7) (v := .ref (ad 11)) (C := RX7) (T := TX7) (N := 28) hx hb hts inX7 hown hK hP 0 rfl rfl 11 (by decide) fl40 (fun _ h9 => h9) rfl dX7_copy_18 ?_
  refine lv_iload_n hx hb dX7_copy_21 rfl (lv_at hl 1 rfl) ?_
  refine x_iald (A := A) hx hb hK hP 5 0 rfl rfl dX7_copy_22 (by omega) (by omega) ?_
  refine x_iast (A := A) hx hb hK hP hD hS 5 0 rfl rfl dX7_copy_23 (by omega) (by omega) (fun H locs hP hD hS => ?_)
  have hP : va_P D vwCl [(rr, eMod ad len kp uo tm em pc0), (ad 7, eArr cI 4 (upN wma b (wma a))), (ad 8, eArr cI 32 be), (ad 9, eArr cI 32 va), (ad 10, eArr cI 32 lo), (ad 11, eArr cI 4 (upN spa b (spa a))), (ad 12, eArr cI 4 hea), (ad 13, eArr cI 4 sna)] H := by have h := hP; rw [upd_nI] at h; exact h
  have hD : va_D A [(rr, eMod ad len kp uo tm em pc0), (ad 7, eArr cI 4 (upN wma b (wma a))), (ad 8, eArr cI 32 be), (ad 9, eArr cI 32 va), (ad 10, eArr cI 32 lo), (ad 11, eArr cI 4 (upN spa b (spa a))), (ad 12, eArr cI 4 hea), (ad 13, eArr cI 4 sna)] := by have h := hD; rw [upd_nI] at h; exact h
  refine lv_aload_n hx hb dX7_copy_24 rfl (lv_at hl 0 rfl) ?_
  refine va_get (D := D) (ci := 7) (v := .ref (ad 12)) (C := RX7) (T := TX7) (N := 28) hx hb hts inX7 hown hK hP 0 rfl rfl 12 (by decide) fl43 (fun _ h9 => h9) rfl dX7_copy_25 ?_
  refine lv_iload_n hx hb dX7_copy_28 rfl (lv_at hl 2 rfl) ?_
  refine lv_aload_n hx hb dX7_copy_29 rfl (lv_at hl 0 rfl) ?_
  refine va_get (D := D) (ci := 7) (v := .ref (ad 12)) (C := RX7) (T := TX7) (N := 28) hx hb hts inX7 hown hK hP 0 rfl rfl 12 (by decide) fl43 (fun _ h9 => h9) rfl dX7_copy_30 ?_
  refine lv_iload_n hx hb dX7_copy_33 rfl (lv_at hl 1 rfl) ?_
  refine x_iald (A := A) hx hb hK hP 6 0 rfl rfl dX7_copy_34 (by omega) (by omega) ?_
  refine x_iast (A := A) hx hb hK hP hD hS 6 0 rfl rfl dX7_copy_35 (by omega) (by omega) (fun H locs hP hD hS => ?_)
  have hP : va_P D vwCl [(rr, eMod ad len kp uo tm em pc0), (ad 7, eArr cI 4 (upN wma b (wma a))), (ad 8, eArr cI 32 be), (ad 9, eArr cI 32 va), (ad 10, eArr cI 32 lo), (ad 11, eArr cI 4 (upN spa b (spa a))), (ad 12, eArr cI 4 (upN hea b (hea a))), (ad 13, eArr cI 4 sna)] H := by have h := hP; rw [upd_nI] at h; exact h
  have hD : va_D A [(rr, eMod ad len kp uo tm em pc0), (ad 7, eArr cI 4 (upN wma b (wma a))), (ad 8, eArr cI 32 be), (ad 9, eArr cI 32 va), (ad 10, eArr cI 32 lo), (ad 11, eArr cI 4 (upN spa b (spa a))), (ad 12, eArr cI 4 (upN hea b (hea a))), (ad 13, eArr cI 4 sna)] := by have h := hD; rw [upd_nI] at h; exact h
  refine lv_aload_n hx hb dX7_copy_36 rfl (lv_at hl 0 rfl) ?_
  refine va_get (D := D) (ci := 7) (v := .ref (ad 13)) (C := RX7) (T := TX7) (N := 28) hx hb hts inX7 hown hK hP 0 rfl rfl 13 (by decide) fl46 (fun _ h9 => h9) rfl dX7_copy_37 ?_
  refine lv_iload_n hx hb dX7_copy_40 rfl (lv_at hl 2 rfl) ?_
  refine lv_aload_n hx hb dX7_copy_41 rfl (lv_at hl 0 rfl) ?_
  refine va_get (D := D) (ci := 7) (v := .ref (ad 13)) (C := RX7) (T := TX7) (N := 28) hx hb hts inX7 hown hK hP 0 rfl rfl 13 (by decide) fl46 (fun _ h9 => h9) rfl dX7_copy_42 ?_
  refine lv_iload_n hx hb dX7_copy_45 rfl (lv_at hl 1 rfl) ?_
  refine x_iald (A := A) hx hb hK hP 7 0 rfl rfl dX7_copy_46 (by omega) (by omega) ?_
  refine x_iast (A := A) hx hb hK hP hD hS 7 0 rfl rfl dX7_copy_47 (by omega) (by omega) (fun H locs hP hD hS => ?_)
  have hP : va_P D vwCl [(rr, eMod ad len kp uo tm em pc0), (ad 7, eArr cI 4 (upN wma b (wma a))), (ad 8, eArr cI 32 be), (ad 9, eArr cI 32 va), (ad 10, eArr cI 32 lo), (ad 11, eArr cI 4 (upN spa b (spa a))), (ad 12, eArr cI 4 (upN hea b (hea a))), (ad 13, eArr cI 4 (upN sna b (sna a)))] H := by have h := hP; rw [upd_nI] at h; exact h
  have hD : va_D A [(rr, eMod ad len kp uo tm em pc0), (ad 7, eArr cI 4 (upN wma b (wma a))), (ad 8, eArr cI 32 be), (ad 9, eArr cI 32 va), (ad 10, eArr cI 32 lo), (ad 11, eArr cI 4 (upN spa b (spa a))), (ad 12, eArr cI 4 (upN hea b (hea a))), (ad 13, eArr cI 4 (upN sna b (sna a)))] := by have h := hD; rw [upd_nI] at h; exact h
  refine lv_iconst (v := (nI 0)) hx hb dX7_copy_48 (by decide) ?_
  refine lv_istore_n (lv' := [(3, .int (nI 0)), (0, .ref rr), (1, .int (nI a)), (2, .int (nI b))]) hx hb dX7_copy_49 rfl hl (by decide) rfl (fun ls hl => ?_)
  have loop50 : ∀ (nn50 : Nat) (k : Nat), 8 - k < nn50 → (k ≤ 8) → ∀ (H : Heap) (locs : List Loc), va_P D vwCl [(rr, eMod ad len kp uo tm em pc0), (ad 7, eArr cI 4 (upN wma b (wma a))), (ad 8, eArr cI 32 (cp8 be a b k)), (ad 9, eArr cI 32 (cp8 va a b k)), (ad 10, eArr cI 32 (cp8 lo a b k)), (ad 11, eArr cI 4 (upN spa b (spa a))), (ad 12, eArr cI 4 (upN hea b (hea a))), (ad 13, eArr cI 4 (upN sna b (sna a)))] H → va_D A [(rr, eMod ad len kp uo tm em pc0), (ad 7, eArr cI 4 (upN wma b (wma a))), (ad 8, eArr cI 32 (cp8 be a b k)), (ad 9, eArr cI 32 (cp8 va a b k)), (ad 10, eArr cI 32 (cp8 lo a b k)), (ad 11, eArr cI 4 (upN spa b (spa a))), (ad 12, eArr cI 4 (upN hea b (hea a))), (ad 13, eArr cI 4 (upN sna b (sna a)))] → va_S A s.heap H locs → ∀ ls : Array Slot, lv_has ls 4 [(3, .int (nI k)), (0, .ref rr), (1, .int (nI a)), (2, .int (nI b))] → W p l e (headSpec wsX7_copy ({ frames := 0, cells := 0, slots := 0, locals := 0 })).room s m ([.ref rr, .int (nI a), .int (nI b)] : List Value).toArray below meth c H locs 0 0 (MQ below (va_Qv (fun (_ : Unit) => True) (ctB D cI cC (fun (_ : Unit) => [(rr, eMod ad len kp uo tm em pc0), (ad 7, eArr cI 4 (upN wma b (wma a))), (ad 8, eArr cI 32 (cp8 be a b 8)), (ad 9, eArr cI 32 (cp8 va a b 8)), (ad 10, eArr cI 32 (cp8 lo a b 8)), (ad 11, eArr cI 4 (upN spa b (spa a))), (ad 12, eArr cI 4 (upN hea b (hea a))), (ad 13, eArr cI 4 (upN sna b (sna a)))]) A) A) ([.ref rr, .int (nI a), .int (nI b)] : List Value).toArray s 0 0 A) (F0 m 50 ls []) := by
    intro nn50
    induction nn50 with
    | zero =>
      intro k hm1
      exact absurd hm1 (Nat.not_lt_zero _)
    | succ nn50 ih50 =>
      intro k hm1 hi2 H locs hP hD hS ls hl
      refine lv_iload_n hx hb dX7_copy_50 rfl (lv_at hl 0 rfl) ?_
      refine lv_bipush (v := (nI 8)) hx hb dX7_copy_51 (by decide) ?_
      refine x_icmp_ge (tgt := 128) hx hb dX7_copy_53 (by decide) (by omega) (by omega) (fun h3 => ?_) (fun h3 => ?_)
      · obtain rfl : k = 8 := by omega
        exact x_vret hx hb hr hlocks dX7_copy_128 (post := fun (_ : Unit) => True) (w1 := fun (_ : Unit) => [(rr, eMod ad len kp uo tm em pc0), (ad 7, eArr cI 4 (upN wma b (wma a))), (ad 8, eArr cI 32 (cp8 be a b 8)), (ad 9, eArr cI 32 (cp8 va a b 8)), (ad 10, eArr cI 32 (cp8 lo a b 8)), (ad 11, eArr cI 4 (upN spa b (spa a))), (ad 12, eArr cI 4 (upN hea b (hea a))), (ad 13, eArr cI 4 (upN sna b (sna a)))]) () trivial hK hP hD hS
      · refine lv_aload_n hx hb dX7_copy_56 rfl (lv_at hl 1 rfl) ?_
        refine va_get (D := D) (ci := 7) (v := .ref (ad 8)) (C := RX7) (T := TX7) (N := 28) hx hb hts inX7 hown hK hP 0 rfl rfl 8 (by decide) fl31 (fun _ h9 => h9) rfl dX7_copy_57 ?_
        refine lv_bipush (v := (nI 8)) hx hb dX7_copy_60 (by decide) ?_
        refine lv_iload_n hx hb dX7_copy_62 rfl (lv_at hl 3 rfl) ?_
        refine x_imul hx hb dX7_copy_63 ?_
        refine lv_iload_n hx hb dX7_copy_64 rfl (lv_at hl 0 rfl) ?_
        refine x_iadd hx hb dX7_copy_65 ?_
        refine lv_aload_n hx hb dX7_copy_66 rfl (lv_at hl 1 rfl) ?_
        refine va_get (D := D) (ci := 7) (v := .ref (ad 8)) (C := RX7) (T := TX7) (N := 28) hx hb hts inX7 hown hK hP 0 rfl rfl 8 (by decide) fl31 (fun _ h9 => h9) rfl dX7_copy_67 ?_
        refine lv_bipush (v := (nI 8)) hx hb dX7_copy_70 (by decide) ?_
        refine lv_iload_n hx hb dX7_copy_72 rfl (lv_at hl 2 rfl) ?_
        refine x_imul hx hb dX7_copy_73 ?_
        refine lv_iload_n hx hb dX7_copy_74 rfl (lv_at hl 0 rfl) ?_
        refine x_iadd hx hb dX7_copy_75 ?_
        refine x_iald (A := A) hx hb hK hP 2 0 rfl rfl dX7_copy_76 (by omega) (by omega) ?_
        refine x_iast (A := A) hx hb hK hP hD hS 2 0 rfl rfl dX7_copy_77 (by omega) (by omega) (fun H locs hP hD hS => ?_)
        have hP : va_P D vwCl [(rr, eMod ad len kp uo tm em pc0), (ad 7, eArr cI 4 (upN wma b (wma a))), (ad 8, eArr cI 32 (upN (cp8 be a b k) (8 * b + k) ((cp8 be a b k) (8 * a + k)))), (ad 9, eArr cI 32 (cp8 va a b k)), (ad 10, eArr cI 32 (cp8 lo a b k)), (ad 11, eArr cI 4 (upN spa b (spa a))), (ad 12, eArr cI 4 (upN hea b (hea a))), (ad 13, eArr cI 4 (upN sna b (sna a)))] H := by have h := hP; rw [upd_nI] at h; exact h
        have hD : va_D A [(rr, eMod ad len kp uo tm em pc0), (ad 7, eArr cI 4 (upN wma b (wma a))), (ad 8, eArr cI 32 (upN (cp8 be a b k) (8 * b + k) ((cp8 be a b k) (8 * a + k)))), (ad 9, eArr cI 32 (cp8 va a b k)), (ad 10, eArr cI 32 (cp8 lo a b k)), (ad 11, eArr cI 4 (upN spa b (spa a))), (ad 12, eArr cI 4 (upN hea b (hea a))), (ad 13, eArr cI 4 (upN sna b (sna a)))] := by have h := hD; rw [upd_nI] at h; exact h
        refine lv_aload_n hx hb dX7_copy_78 rfl (lv_at hl 1 rfl) ?_
        refine va_get (D := D) (ci := 7) (v := .ref (ad 9)) (C := RX7) (T := TX7) (N := 28) hx hb hts inX7 hown hK hP 0 rfl rfl 9 (by decide) fl34 (fun _ h9 => h9) rfl dX7_copy_79 ?_
        refine lv_bipush (v := (nI 8)) hx hb dX7_copy_82 (by decide) ?_
        refine lv_iload_n hx hb dX7_copy_84 rfl (lv_at hl 3 rfl) ?_
        refine x_imul hx hb dX7_copy_85 ?_
        refine lv_iload_n hx hb dX7_copy_86 rfl (lv_at hl 0 rfl) ?_
        refine x_iadd hx hb dX7_copy_87 ?_
        refine lv_aload_n hx hb dX7_copy_88 rfl (lv_at hl 1 rfl) ?_
        refine va_get (D := D) (ci := 7) (v := .ref (ad 9)) (C := RX7) (T := TX7) (N := 28) hx hb hts inX7 hown hK hP 0 rfl rfl 9 (by decide) fl34 (fun _ h9 => h9) rfl dX7_copy_89 ?_
        refine lv_bipush (v := (nI 8)) hx hb dX7_copy_92 (by decide) ?_
        refine lv_iload_n hx hb dX7_copy_94 rfl (lv_at hl 2 rfl) ?_
        refine x_imul hx hb dX7_copy_95 ?_
        refine lv_iload_n hx hb dX7_copy_96 rfl (lv_at hl 0 rfl) ?_
        refine x_iadd hx hb dX7_copy_97 ?_
        refine x_iald (A := A) hx hb hK hP 3 0 rfl rfl dX7_copy_98 (by omega) (by omega) ?_
        refine x_iast (A := A) hx hb hK hP hD hS 3 0 rfl rfl dX7_copy_99 (by omega) (by omega) (fun H locs hP hD hS => ?_)
        have hP : va_P D vwCl [(rr, eMod ad len kp uo tm em pc0), (ad 7, eArr cI 4 (upN wma b (wma a))), (ad 8, eArr cI 32 (upN (cp8 be a b k) (8 * b + k) ((cp8 be a b k) (8 * a + k)))), (ad 9, eArr cI 32 (upN (cp8 va a b k) (8 * b + k) ((cp8 va a b k) (8 * a + k)))), (ad 10, eArr cI 32 (cp8 lo a b k)), (ad 11, eArr cI 4 (upN spa b (spa a))), (ad 12, eArr cI 4 (upN hea b (hea a))), (ad 13, eArr cI 4 (upN sna b (sna a)))] H := by have h := hP; rw [upd_nI] at h; exact h
        have hD : va_D A [(rr, eMod ad len kp uo tm em pc0), (ad 7, eArr cI 4 (upN wma b (wma a))), (ad 8, eArr cI 32 (upN (cp8 be a b k) (8 * b + k) ((cp8 be a b k) (8 * a + k)))), (ad 9, eArr cI 32 (upN (cp8 va a b k) (8 * b + k) ((cp8 va a b k) (8 * a + k)))), (ad 10, eArr cI 32 (cp8 lo a b k)), (ad 11, eArr cI 4 (upN spa b (spa a))), (ad 12, eArr cI 4 (upN hea b (hea a))), (ad 13, eArr cI 4 (upN sna b (sna a)))] := by have h := hD; rw [upd_nI] at h; exact h
        refine lv_aload_n hx hb dX7_copy_100 rfl (lv_at hl 1 rfl) ?_
        refine va_get (D := D) (ci := 7) (v := .ref (ad 10)) (C := RX7) (T := TX7) (N := 28) hx hb hts inX7 hown hK hP 0 rfl rfl 10 (by decide) fl37 (fun _ h9 => h9) rfl dX7_copy_101 ?_
        refine lv_bipush (v := (nI 8)) hx hb dX7_copy_104 (by decide) ?_
        refine lv_iload_n hx hb dX7_copy_106 rfl (lv_at hl 3 rfl) ?_
        refine x_imul hx hb dX7_copy_107 ?_
        refine lv_iload_n hx hb dX7_copy_108 rfl (lv_at hl 0 rfl) ?_
        refine x_iadd hx hb dX7_copy_109 ?_
        refine lv_aload_n hx hb dX7_copy_110 rfl (lv_at hl 1 rfl) ?_
        refine va_get (D := D) (ci := 7) (v := .ref (ad 10)) (C := RX7) (T := TX7) (N := 28) hx hb hts inX7 hown hK hP 0 rfl rfl 10 (by decide) fl37 (fun _ h9 => h9) rfl dX7_copy_111 ?_
        refine lv_bipush (v := (nI 8)) hx hb dX7_copy_114 (by decide) ?_
        refine lv_iload_n hx hb dX7_copy_116 rfl (lv_at hl 2 rfl) ?_
        refine x_imul hx hb dX7_copy_117 ?_
        refine lv_iload_n hx hb dX7_copy_118 rfl (lv_at hl 0 rfl) ?_
        refine x_iadd hx hb dX7_copy_119 ?_
        refine x_iald (A := A) hx hb hK hP 4 0 rfl rfl dX7_copy_120 (by omega) (by omega) ?_
        refine x_iast (A := A) hx hb hK hP hD hS 4 0 rfl rfl dX7_copy_121 (by omega) (by omega) (fun H locs hP hD hS => ?_)
        have hP : va_P D vwCl [(rr, eMod ad len kp uo tm em pc0), (ad 7, eArr cI 4 (upN wma b (wma a))), (ad 8, eArr cI 32 (upN (cp8 be a b k) (8 * b + k) ((cp8 be a b k) (8 * a + k)))), (ad 9, eArr cI 32 (upN (cp8 va a b k) (8 * b + k) ((cp8 va a b k) (8 * a + k)))), (ad 10, eArr cI 32 (upN (cp8 lo a b k) (8 * b + k) ((cp8 lo a b k) (8 * a + k)))), (ad 11, eArr cI 4 (upN spa b (spa a))), (ad 12, eArr cI 4 (upN hea b (hea a))), (ad 13, eArr cI 4 (upN sna b (sna a)))] H := by have h := hP; rw [upd_nI] at h; exact h
        have hD : va_D A [(rr, eMod ad len kp uo tm em pc0), (ad 7, eArr cI 4 (upN wma b (wma a))), (ad 8, eArr cI 32 (upN (cp8 be a b k) (8 * b + k) ((cp8 be a b k) (8 * a + k)))), (ad 9, eArr cI 32 (upN (cp8 va a b k) (8 * b + k) ((cp8 va a b k) (8 * a + k)))), (ad 10, eArr cI 32 (upN (cp8 lo a b k) (8 * b + k) ((cp8 lo a b k) (8 * a + k)))), (ad 11, eArr cI 4 (upN spa b (spa a))), (ad 12, eArr cI 4 (upN hea b (hea a))), (ad 13, eArr cI 4 (upN sna b (sna a)))] := by have h := hD; rw [upd_nI] at h; exact h
        refine lv_iinc (v := (nI (k + 1))) (lv' := [(3, .int (nI (k + 1))), (0, .ref rr), (1, .int (nI a)), (2, .int (nI b))]) hx hb dX7_copy_122 hl (k := 0) rfl (nI_inc _ 1) (by decide) rfl (fun ls hl => ?_)
        refine lv_goto (tgt := 50) hx hb dX7_copy_125 (by decide) ?_
        have hP : va_P D vwCl [(rr, eMod ad len kp uo tm em pc0), (ad 7, eArr cI 4 (upN wma b (wma a))), (ad 8, eArr cI 32 (cp8 be a b (k + 1))), (ad 9, eArr cI 32 (cp8 va a b (k + 1))), (ad 10, eArr cI 32 (cp8 lo a b (k + 1))), (ad 11, eArr cI 4 (upN spa b (spa a))), (ad 12, eArr cI 4 (upN hea b (hea a))), (ad 13, eArr cI 4 (upN sna b (sna a)))] H := by rw [cp8_s hab.2.2 (by omega), cp8_s hab.2.2 (by omega), cp8_s hab.2.2 (by omega)]; exact hP
        have hD : va_D A [(rr, eMod ad len kp uo tm em pc0), (ad 7, eArr cI 4 (upN wma b (wma a))), (ad 8, eArr cI 32 (cp8 be a b (k + 1))), (ad 9, eArr cI 32 (cp8 va a b (k + 1))), (ad 10, eArr cI 32 (cp8 lo a b (k + 1))), (ad 11, eArr cI 4 (upN spa b (spa a))), (ad 12, eArr cI 4 (upN hea b (hea a))), (ad 13, eArr cI 4 (upN sna b (sna a)))] := by rw [cp8_s hab.2.2 (by omega), cp8_s hab.2.2 (by omega), cp8_s hab.2.2 (by omega)]; exact hD
        exact ih50 (k + 1) (by omega) (by omega) _ _ (hP.sub [0, 1, 2, 3, 4, 5, 6, 7] rfl) (hD.sub [0, 1, 2, 3, 4, 5, 6, 7] rfl rfl) hS _ (lv_sub hl [0, 1, 2, 3] rfl)
  have hP : va_P D vwCl [(rr, eMod ad len kp uo tm em pc0), (ad 7, eArr cI 4 (upN wma b (wma a))), (ad 8, eArr cI 32 (cp8 be a b 0)), (ad 9, eArr cI 32 (cp8 va a b 0)), (ad 10, eArr cI 32 (cp8 lo a b 0)), (ad 11, eArr cI 4 (upN spa b (spa a))), (ad 12, eArr cI 4 (upN hea b (hea a))), (ad 13, eArr cI 4 (upN sna b (sna a)))] H := by rw [cp8_0, cp8_0, cp8_0]; exact hP
  have hD : va_D A [(rr, eMod ad len kp uo tm em pc0), (ad 7, eArr cI 4 (upN wma b (wma a))), (ad 8, eArr cI 32 (cp8 be a b 0)), (ad 9, eArr cI 32 (cp8 va a b 0)), (ad 10, eArr cI 32 (cp8 lo a b 0)), (ad 11, eArr cI 4 (upN spa b (spa a))), (ad 12, eArr cI 4 (upN hea b (hea a))), (ad 13, eArr cI 4 (upN sna b (sna a)))] := by rw [cp8_0, cp8_0, cp8_0]; exact hD
  exact loop50 _ 0 (Nat.lt_succ_self _) (by omega) _ _ (hP.sub [0, 1, 2, 3, 4, 5, 6, 7] rfl) (hD.sub [0, 1, 2, 3, 4, 5, 6, 7] rfl rfl) hS _ (lv_sub hl [0, 1, 2, 3] rfl)

set_option maxRecDepth 100000 in
set_option maxHeartbeats 4000000 in
theorem c_X7_wipe (l : Launch) (D : va_G) (cI cC : ClassId) (rr : Nat) (ad : Nat → Nat) (len : Nat) (kp : Nat) (uo : Nat) (tm : Nat) (em : Nat) (pc0 : Nat) : mtI l D cI cC yX7_wipe wsX7_wipe ({ frames := 0, cells := 0, slots := 0, locals := 0 }) [.ref rr] [(rr, eMod ad len kp uo tm em pc0)] (fun (r : Int32) (_ : Unit) => r = (nI len)) (fun (_ : Unit) => [(rr, eMod ad 0 kp uo tm em pc0)]) := by
  refine mtI_of (cc := cX7_wipe) (maxL := 2) (ret := (some .int)) (by decide) rfl rfl ?_
  intro p e s m below meth c A hx hb hml hr hts hown hlocks hN hA hK hP hD hS ls hl
  have hown : s.vm.findClass RX7 = some m.cls := hown
  have hl : lv_has ls 2 [(0, .ref rr)] := hl
  obtain ⟨H, hHe⟩ : ∃ H, H = s.heap := ⟨_, rfl⟩
  rw [← hHe] at hP ⊢
  have hS : va_S A s.heap H [] := by rw [hHe]; exact va_S.rf
  have fl86 := hts (.fieldLink RX7 86 "EchoPaysRentModel" "length" "I") (by decide +kernel)
  have inX7 : ∀ w ∈ wsX70, w ∈ wsX7_wipe := by decide +kernel
  refine lv_aload_n hx hb dX7_wipe_0 rfl (lv_at hl 0 rfl) ?_
  refine va_get (D := D) (ci := 7) (v := .int (nI len)) (C := RX7) (T := TX7) (N := 28) hx hb hts inX7 hown hK hP 0 rfl rfl 0 (by decide) fl86 (fun _ h9 => h9) rfl dX7_wipe_1 ?_
  refine lv_istore_n (lv' := [(1, .int (nI len)), (0, .ref rr)]) hx hb dX7_wipe_4 rfl hl (by decide) rfl (fun ls hl => ?_)
  refine lv_aload_n hx hb dX7_wipe_5 rfl (lv_at hl 1 rfl) ?_
  refine lv_iconst (v := (nI 0)) hx hb dX7_wipe_6 (by decide) ?_
  refine va_put (D := D) (ci := 7) (v := .int (nI 0)) (ty := .int) (C := RX7) (T := TX7) (N := 28) hx hb hts inX7 tyX7 tyX7_ok nmX7 hown hK hP hD hS 0 rfl rfl 0 (by decide) fl86 (fun _ h9 => h9) rfl (by decide +kernel) rfl rfl (Nat.le_of_ble_eq_true rfl) dX7_wipe_7 (fun H locs hP hD hS => ?_)
  have hP : va_P D vwCl [(rr, eMod ad 0 kp uo tm em pc0)] H := hP
  have hD : va_D A [(rr, eMod ad 0 kp uo tm em pc0)] := hD
  refine lv_iload_n hx hb dX7_wipe_10 rfl (lv_at hl 0 rfl) ?_
  exact x_iret hx hb hr hlocks dX7_wipe_11 rfl (post := fun (r : Int32) (_ : Unit) => r = (nI len)) (w1 := fun (_ : Unit) => [(rr, eMod ad 0 kp uo tm em pc0)]) () rfl hK hP hD hS

set_option maxRecDepth 100000 in
set_option maxHeartbeats 4000000 in
theorem c_X7_byteAt (l : Launch) (D : va_G) (cI cC : ClassId) (rr : Nat) (ad : Nat → Nat) (len : Nat) (kp : Nat) (uo : Nat) (tm : Nat) (em : Nat) (pc0 : Nat) (tx : Nat → Nat) (k : Nat) (hl3 : len ≤ 300 ∧ k < 2147483648) : mtI l D cI cC yX7_byteAt wsX7_byteAt ({ frames := 0, cells := 0, slots := 0, locals := 0 }) [.ref rr, .int (nI k)] [(rr, eMod ad len kp uo tm em pc0), (ad 1, eArr cI 300 tx)] (fun (r : Int32) (_ : Unit) => r = (nI (byM tx len k))) (fun (_ : Unit) => [(rr, eMod ad len kp uo tm em pc0), (ad 1, eArr cI 300 tx)]) := by
  refine mtI_of (cc := cX7_byteAt) (maxL := 2) (ret := (some .int)) (by decide) rfl rfl ?_
  intro p e s m below meth c A hx hb hml hr hts hown hlocks hN hA hK hP hD hS ls hl
  have hown : s.vm.findClass RX7 = some m.cls := hown
  have hl : lv_has ls 2 [(0, .ref rr), (1, .int (nI k))] := hl
  obtain ⟨H, hHe⟩ : ∃ H, H = s.heap := ⟨_, rfl⟩
  rw [← hHe] at hP ⊢
  have hS : va_S A s.heap H [] := by rw [hHe]; exact va_S.rf
  have fl86 := hts (.fieldLink RX7 86 "EchoPaysRentModel" "length" "I") (by decide +kernel)
  have inX7 : ∀ w ∈ wsX70, w ∈ wsX7_byteAt := by decide +kernel
  have fl7 := hts (.fieldLink RX7 7 "EchoPaysRentModel" "text" "[I") (by decide +kernel)
  refine lv_iload_n hx hb dX7_byteAt_0 rfl (lv_at hl 1 rfl) ?_
  refine lv_aload_n hx hb dX7_byteAt_1 rfl (lv_at hl 0 rfl) ?_
  refine va_get (D := D) (ci := 7) (v := .int (nI len)) (C := RX7) (T := TX7) (N := 28) hx hb hts inX7 hown hK hP 0 rfl rfl 0 (by decide) fl86 (fun _ h9 => h9) rfl dX7_byteAt_2 ?_
  refine x_icmp_ge (tgt := 17) hx hb dX7_byteAt_5 (by decide) (by omega) (by omega) (fun h1 => ?_) (fun h1 => ?_)
  · refine lv_iconst (v := (nI 0)) hx hb dX7_byteAt_17 (by decide) ?_
    exact x_iret hx hb hr hlocks dX7_byteAt_18 rfl (post := fun (r : Int32) (_ : Unit) => r = (nI (byM tx len k))) (w1 := fun (_ : Unit) => [(rr, eMod ad len kp uo tm em pc0), (ad 1, eArr cI 300 tx)]) () (by first | rw [byM_lt (by omega)] | rw [byM_ge (by omega)]) hK hP hD hS
  · refine lv_aload_n hx hb dX7_byteAt_8 rfl (lv_at hl 0 rfl) ?_
    refine va_get (D := D) (ci := 7) (v := .ref (ad 1)) (C := RX7) (T := TX7) (N := 28) hx hb hts inX7 hown hK hP 0 rfl rfl 1 (by decide) fl7 (fun _ h9 => h9) rfl dX7_byteAt_9 ?_
    refine lv_iload_n hx hb dX7_byteAt_12 rfl (lv_at hl 1 rfl) ?_
    refine x_iald (A := A) hx hb hK hP 1 0 rfl rfl dX7_byteAt_13 (by omega) (by omega) ?_
    refine lv_goto (tgt := 18) hx hb dX7_byteAt_14 (by decide) ?_
    exact x_iret hx hb hr hlocks dX7_byteAt_18 rfl (post := fun (r : Int32) (_ : Unit) => r = (nI (byM tx len k))) (w1 := fun (_ : Unit) => [(rr, eMod ad len kp uo tm em pc0), (ad 1, eArr cI 300 tx)]) () (by first | rw [byM_lt (by omega)] | rw [byM_ge (by omega)]) hK hP hD hS

set_option maxRecDepth 100000 in
set_option maxHeartbeats 4000000 in
theorem c_X7_noTalk (l : Launch) (D : va_G) (cI cC : ClassId) (rr : Nat) (ad : Nat → Nat) (len : Nat) (kp : Nat) (uo : Nat) (tm : Nat) (em : Nat) (pc0 : Nat) : mtI l D cI cC yX7_noTalk wsX7_noTalk ({ frames := 0, cells := 0, slots := 0, locals := 0 }) [.ref rr] [(rr, eMod ad len kp uo tm em pc0)] (fun (r : Int32) (_ : Unit) => r = (nI tm)) (fun (_ : Unit) => [(rr, eMod ad len kp uo 0 em pc0)]) := by
  refine mtI_of (cc := cX7_noTalk) (maxL := 2) (ret := (some .int)) (by decide) rfl rfl ?_
  intro p e s m below meth c A hx hb hml hr hts hown hlocks hN hA hK hP hD hS ls hl
  have hown : s.vm.findClass RX7 = some m.cls := hown
  have hl : lv_has ls 2 [(0, .ref rr)] := hl
  obtain ⟨H, hHe⟩ : ∃ H, H = s.heap := ⟨_, rfl⟩
  rw [← hHe] at hP ⊢
  have hS : va_S A s.heap H [] := by rw [hHe]; exact va_S.rf
  have fl148 := hts (.fieldLink RX7 148 "EchoPaysRentModel" "talkMany" "I") (by decide +kernel)
  have inX7 : ∀ w ∈ wsX70, w ∈ wsX7_noTalk := by decide +kernel
  refine lv_aload_n hx hb dX7_noTalk_0 rfl (lv_at hl 0 rfl) ?_
  refine va_get (D := D) (ci := 7) (v := .int (nI tm)) (C := RX7) (T := TX7) (N := 28) hx hb hts inX7 hown hK hP 0 rfl rfl 17 (by decide) fl148 (fun _ h9 => h9) rfl dX7_noTalk_1 ?_
  refine lv_istore_n (lv' := [(1, .int (nI tm)), (0, .ref rr)]) hx hb dX7_noTalk_4 rfl hl (by decide) rfl (fun ls hl => ?_)
  refine lv_aload_n hx hb dX7_noTalk_5 rfl (lv_at hl 1 rfl) ?_
  refine lv_iconst (v := (nI 0)) hx hb dX7_noTalk_6 (by decide) ?_
  refine va_put (D := D) (ci := 7) (v := .int (nI 0)) (ty := .int) (C := RX7) (T := TX7) (N := 28) hx hb hts inX7 tyX7 tyX7_ok nmX7 hown hK hP hD hS 0 rfl rfl 17 (by decide) fl148 (fun _ h9 => h9) rfl (by decide +kernel) rfl rfl (Nat.le_of_ble_eq_true rfl) dX7_noTalk_7 (fun H locs hP hD hS => ?_)
  have hP : va_P D vwCl [(rr, eMod ad len kp uo 0 em pc0)] H := hP
  have hD : va_D A [(rr, eMod ad len kp uo 0 em pc0)] := hD
  refine lv_iload_n hx hb dX7_noTalk_10 rfl (lv_at hl 0 rfl) ?_
  exact x_iret hx hb hr hlocks dX7_noTalk_11 rfl (post := fun (r : Int32) (_ : Unit) => r = (nI tm)) (w1 := fun (_ : Unit) => [(rr, eMod ad len kp uo 0 em pc0)]) () rfl hK hP hD hS

set_option maxRecDepth 100000 in
set_option maxHeartbeats 4000000 in
theorem c_X7_noEars (l : Launch) (D : va_G) (cI cC : ClassId) (rr : Nat) (ad : Nat → Nat) (len : Nat) (kp : Nat) (uo : Nat) (tm : Nat) (em : Nat) (pc0 : Nat) : mtI l D cI cC yX7_noEars wsX7_noEars ({ frames := 0, cells := 0, slots := 0, locals := 0 }) [.ref rr] [(rr, eMod ad len kp uo tm em pc0)] (fun (r : Int32) (_ : Unit) => r = (nI em)) (fun (_ : Unit) => [(rr, eMod ad len kp uo tm 0 pc0)]) := by
  refine mtI_of (cc := cX7_noEars) (maxL := 2) (ret := (some .int)) (by decide) rfl rfl ?_
  intro p e s m below meth c A hx hb hml hr hts hown hlocks hN hA hK hP hD hS ls hl
  have hown : s.vm.findClass RX7 = some m.cls := hown
  have hl : lv_has ls 2 [(0, .ref rr)] := hl
  obtain ⟨H, hHe⟩ : ∃ H, H = s.heap := ⟨_, rfl⟩
  rw [← hHe] at hP ⊢
  have hS : va_S A s.heap H [] := by rw [hHe]; exact va_S.rf
  have fl151 := hts (.fieldLink RX7 151 "EchoPaysRentModel" "earMany" "I") (by decide +kernel)
  have inX7 : ∀ w ∈ wsX70, w ∈ wsX7_noEars := by decide +kernel
  refine lv_aload_n hx hb dX7_noEars_0 rfl (lv_at hl 0 rfl) ?_
  refine va_get (D := D) (ci := 7) (v := .int (nI em)) (C := RX7) (T := TX7) (N := 28) hx hb hts inX7 hown hK hP 0 rfl rfl 19 (by decide) fl151 (fun _ h9 => h9) rfl dX7_noEars_1 ?_
  refine lv_istore_n (lv' := [(1, .int (nI em)), (0, .ref rr)]) hx hb dX7_noEars_4 rfl hl (by decide) rfl (fun ls hl => ?_)
  refine lv_aload_n hx hb dX7_noEars_5 rfl (lv_at hl 1 rfl) ?_
  refine lv_iconst (v := (nI 0)) hx hb dX7_noEars_6 (by decide) ?_
  refine va_put (D := D) (ci := 7) (v := .int (nI 0)) (ty := .int) (C := RX7) (T := TX7) (N := 28) hx hb hts inX7 tyX7 tyX7_ok nmX7 hown hK hP hD hS 0 rfl rfl 19 (by decide) fl151 (fun _ h9 => h9) rfl (by decide +kernel) rfl rfl (Nat.le_of_ble_eq_true rfl) dX7_noEars_7 (fun H locs hP hD hS => ?_)
  have hP : va_P D vwCl [(rr, eMod ad len kp uo tm 0 pc0)] H := hP
  have hD : va_D A [(rr, eMod ad len kp uo tm 0 pc0)] := hD
  refine lv_iload_n hx hb dX7_noEars_10 rfl (lv_at hl 0 rfl) ?_
  exact x_iret hx hb hr hlocks dX7_noEars_11 rfl (post := fun (r : Int32) (_ : Unit) => r = (nI em)) (w1 := fun (_ : Unit) => [(rr, eMod ad len kp uo tm 0 pc0)]) () rfl hK hP hD hS

set_option maxRecDepth 100000 in
set_option maxHeartbeats 4000000 in
theorem c_X7_talk_ok (l : Launch) (D : va_G) (cI cC : ClassId) (rr : Nat) (ad : Nat → Nat) (len : Nat) (kp : Nat) (uo : Nat) (tm : Nat) (em : Nat) (pc0 : Nat) (tk : Nat → Nat) (v : Nat) (hv3 : v ≤ 3 ∧ tm < 6) : mtI l D cI cC yX7_talk wsX7_talk ({ frames := 1, cells := 0, slots := 0, locals := 25 }) [.ref rr, .int (nI v)] [(rr, eMod ad len kp uo tm em pc0), (ad 15, eArr cI 6 tk)] (fun (r : Int32) (_ : Unit) => r = (nI (tm + 1))) (fun (_ : Unit) => [(rr, eMod ad len kp uo (tm + 1) em pc0), (ad 15, eArr cI 6 (upN tk tm v))]) := by
  refine mtI_of (cc := cX7_talk) (maxL := 2) (ret := (some .int)) (by decide) rfl rfl ?_
  intro p e s m below meth c A hx hb hml hr hts hown hlocks hN hA hK hP hD hS ls hl
  have hown : s.vm.findClass RX7 = some m.cls := hown
  have hl : lv_has ls 2 [(0, .ref rr), (1, .int (nI v))] := hl
  obtain ⟨H, hHe⟩ : ∃ H, H = s.heap := ⟨_, rfl⟩
  rw [← hHe] at hP ⊢
  have hS : va_S A s.heap H [] := by rw [hHe]; exact va_S.rf
  have fl148 := hts (.fieldLink RX7 148 "EchoPaysRentModel" "talkMany" "I") (by decide +kernel)
  have inX7 : ∀ w ∈ wsX70, w ∈ wsX7_talk := by decide +kernel
  have fl52 := hts (.fieldLink RX7 52 "EchoPaysRentModel" "talk" "[I") (by decide +kernel)
  refine lv_iload_n hx hb dX7_talk_0 rfl (lv_at hl 1 rfl) ?_
  refine n_i2l hx hb dX7_talk_1 (by omega) ?_
  refine lv_lconst (v := lN 0) hx hb dX7_talk_2 rfl ?_
  refine lv_ldc2 (v := lN 3) hx hb hown (hts (.constantLong RX7 184 3) (by decide +kernel)) dX7_talk_3 ?_
  refine k_S (As := [.long (lI (((v : Nat) : Int))), .long (lI (((0 : Nat) : Int))), .long (lI (((3 : Nat) : Int)))]) (wr := [(rr, eMod ad len kp uo tm em pc0), (ad 15, eArr cI 6 tk)]) ⟨hx, hb, hml, hown, hts⟩ (c_X7_in l D cI cC (((v : Nat) : Int)) (((0 : Nat) : Int)) (((3 : Nat) : Int)) (by omega) (by omega) (by omega)) (cwS 3 hts gX7_talk_X7_in rfl rfl rfl (by decide +kernel) ⟨Nat.le_of_ble_eq_true rfl, Nat.le_of_ble_eq_true rfl⟩) rfl hl.1 (by simp only [nI_iI, lN_lI]; rfl) (Nat.le_of_ble_eq_true rfl) dX7_talk_6 ⟨Nat.zero_le _, Nat.zero_le _⟩ hN hK hP hD hS hA [] [0, 1] rfl rfl ⟨rfl, rfl, by decide⟩ (fun r1 u H locs w2 hP hD hS => ?_)
  obtain ⟨rfl, h3, h4⟩ | ⟨rfl, h5⟩ : (r1 = (nI 1) ∧ (((0 : Nat) : Int)) ≤ (((v : Nat) : Int)) ∧ (((v : Nat) : Int)) ≤ (((3 : Nat) : Int))) ∨ (r1 = (nI 0) ∧ ((((v : Nat) : Int)) < (((0 : Nat) : Int)) ∨ (((3 : Nat) : Int)) < (((v : Nat) : Int)))) := w2
  · refine x_if_ne (tgt := 14) hx hb dX7_talk_9 (by decide) (by omega) (fun h6 => ?_) (fun h6 => False.elim (by omega))
    refine lv_aload_n hx hb dX7_talk_14 rfl (lv_at hl 0 rfl) ?_
    refine va_get (D := D) (ci := 7) (v := .int (nI tm)) (C := RX7) (T := TX7) (N := 28) hx hb hts inX7 hown hK hP 0 rfl rfl 17 (by decide) fl148 (fun _ h9 => h9) rfl dX7_talk_15 ?_
    refine lv_bipush (v := (nI 6)) hx hb dX7_talk_18 (by decide) ?_
    refine x_icmp_ne (tgt := 26) hx hb dX7_talk_20 (by decide) (by omega) (by omega) (fun h7 => ?_) (fun h7 => False.elim (by omega))
    refine lv_aload_n hx hb dX7_talk_26 rfl (lv_at hl 0 rfl) ?_
    refine va_get (D := D) (ci := 7) (v := .ref (ad 15)) (C := RX7) (T := TX7) (N := 28) hx hb hts inX7 hown hK hP 0 rfl rfl 18 (by decide) fl52 (fun _ h9 => h9) rfl dX7_talk_27 ?_
    refine lv_aload_n hx hb dX7_talk_30 rfl (lv_at hl 0 rfl) ?_
    refine va_get (D := D) (ci := 7) (v := .int (nI tm)) (C := RX7) (T := TX7) (N := 28) hx hb hts inX7 hown hK hP 0 rfl rfl 17 (by decide) fl148 (fun _ h9 => h9) rfl dX7_talk_31 ?_
    refine lv_iload_n hx hb dX7_talk_34 rfl (lv_at hl 1 rfl) ?_
    refine x_iast (A := A) hx hb hK hP hD hS 1 0 rfl rfl dX7_talk_35 (by omega) (by omega) (fun H locs hP hD hS => ?_)
    have hP : va_P D vwCl [(rr, eMod ad len kp uo tm em pc0), (ad 15, eArr cI 6 (upN tk tm v))] H := by have h := hP; rw [upd_nI] at h; exact h
    have hD : va_D A [(rr, eMod ad len kp uo tm em pc0), (ad 15, eArr cI 6 (upN tk tm v))] := by have h := hD; rw [upd_nI] at h; exact h
    refine lv_aload_n hx hb dX7_talk_36 rfl (lv_at hl 0 rfl) ?_
    refine lv_dup hx hb dX7_talk_37 rfl ?_
    refine va_get (D := D) (ci := 7) (v := .int (nI tm)) (C := RX7) (T := TX7) (N := 28) hx hb hts inX7 hown hK hP 0 rfl rfl 17 (by decide) fl148 (fun _ h9 => h9) rfl dX7_talk_38 ?_
    refine lv_iconst (v := (nI 1)) hx hb dX7_talk_41 (by decide) ?_
    refine x_iadd hx hb dX7_talk_42 ?_
    refine va_put (D := D) (ci := 7) (v := .int (nI (tm + 1))) (ty := .int) (C := RX7) (T := TX7) (N := 28) hx hb hts inX7 tyX7 tyX7_ok nmX7 hown hK hP hD hS 0 rfl rfl 17 (by decide) fl148 (fun _ h9 => h9) rfl (by decide +kernel) rfl rfl (Nat.le_of_ble_eq_true rfl) dX7_talk_43 (fun H locs hP hD hS => ?_)
    have hP : va_P D vwCl [(rr, eMod ad len kp uo (tm + 1) em pc0), (ad 15, eArr cI 6 (upN tk tm v))] H := hP
    have hD : va_D A [(rr, eMod ad len kp uo (tm + 1) em pc0), (ad 15, eArr cI 6 (upN tk tm v))] := hD
    refine lv_aload_n hx hb dX7_talk_46 rfl (lv_at hl 0 rfl) ?_
    refine va_get (D := D) (ci := 7) (v := .int (nI (tm + 1))) (C := RX7) (T := TX7) (N := 28) hx hb hts inX7 hown hK hP 0 rfl rfl 17 (by decide) fl148 (fun _ h9 => h9) rfl dX7_talk_47 ?_
    exact x_iret hx hb hr hlocks dX7_talk_50 rfl (post := fun (r : Int32) (_ : Unit) => r = (nI (tm + 1))) (w1 := fun (_ : Unit) => [(rr, eMod ad len kp uo (tm + 1) em pc0), (ad 15, eArr cI 6 (upN tk tm v))]) () rfl hK hP hD hS
  · exact False.elim (by omega)

set_option maxRecDepth 100000 in
set_option maxHeartbeats 4000000 in
theorem c_X7_talk_full (l : Launch) (D : va_G) (cI cC : ClassId) (rr : Nat) (ad : Nat → Nat) (len : Nat) (kp : Nat) (uo : Nat) (tm : Nat) (em : Nat) (pc0 : Nat) (v : Nat) (hv3 : v ≤ 3 ∧ tm = 6) : mtI l D cI cC yX7_talk wsX7_talk ({ frames := 1, cells := 0, slots := 0, locals := 25 }) [.ref rr, .int (nI v)] [(rr, eMod ad len kp uo tm em pc0)] (fun (r : Int32) (_ : Unit) => r = (iI (-3))) (fun (_ : Unit) => [(rr, eMod ad len kp uo tm em pc0)]) := by
  refine mtI_of (cc := cX7_talk) (maxL := 2) (ret := (some .int)) (by decide) rfl rfl ?_
  intro p e s m below meth c A hx hb hml hr hts hown hlocks hN hA hK hP hD hS ls hl
  have hown : s.vm.findClass RX7 = some m.cls := hown
  have hl : lv_has ls 2 [(0, .ref rr), (1, .int (nI v))] := hl
  obtain ⟨H, hHe⟩ : ∃ H, H = s.heap := ⟨_, rfl⟩
  rw [← hHe] at hP ⊢
  have hS : va_S A s.heap H [] := by rw [hHe]; exact va_S.rf
  have fl148 := hts (.fieldLink RX7 148 "EchoPaysRentModel" "talkMany" "I") (by decide +kernel)
  have inX7 : ∀ w ∈ wsX70, w ∈ wsX7_talk := by decide +kernel
  refine lv_iload_n hx hb dX7_talk_0 rfl (lv_at hl 1 rfl) ?_
  refine n_i2l hx hb dX7_talk_1 (by omega) ?_
  refine lv_lconst (v := lN 0) hx hb dX7_talk_2 rfl ?_
  refine lv_ldc2 (v := lN 3) hx hb hown (hts (.constantLong RX7 184 3) (by decide +kernel)) dX7_talk_3 ?_
  refine k_S (As := [.long (lI (((v : Nat) : Int))), .long (lI (((0 : Nat) : Int))), .long (lI (((3 : Nat) : Int)))]) (wr := [(rr, eMod ad len kp uo tm em pc0)]) ⟨hx, hb, hml, hown, hts⟩ (c_X7_in l D cI cC (((v : Nat) : Int)) (((0 : Nat) : Int)) (((3 : Nat) : Int)) (by omega) (by omega) (by omega)) (cwS 3 hts gX7_talk_X7_in rfl rfl rfl (by decide +kernel) ⟨Nat.le_of_ble_eq_true rfl, Nat.le_of_ble_eq_true rfl⟩) rfl hl.1 (by simp only [nI_iI, lN_lI]; rfl) (Nat.le_of_ble_eq_true rfl) dX7_talk_6 ⟨Nat.zero_le _, Nat.zero_le _⟩ hN hK hP hD hS hA [] [0] rfl rfl ⟨rfl, rfl, by decide⟩ (fun r1 u H locs w2 hP hD hS => ?_)
  obtain ⟨rfl, h3, h4⟩ | ⟨rfl, h5⟩ : (r1 = (nI 1) ∧ (((0 : Nat) : Int)) ≤ (((v : Nat) : Int)) ∧ (((v : Nat) : Int)) ≤ (((3 : Nat) : Int))) ∨ (r1 = (nI 0) ∧ ((((v : Nat) : Int)) < (((0 : Nat) : Int)) ∨ (((3 : Nat) : Int)) < (((v : Nat) : Int)))) := w2
  · refine x_if_ne (tgt := 14) hx hb dX7_talk_9 (by decide) (by omega) (fun h6 => ?_) (fun h6 => False.elim (by omega))
    refine lv_aload_n hx hb dX7_talk_14 rfl (lv_at hl 0 rfl) ?_
    refine va_get (D := D) (ci := 7) (v := .int (nI tm)) (C := RX7) (T := TX7) (N := 28) hx hb hts inX7 hown hK hP 0 rfl rfl 17 (by decide) fl148 (fun _ h9 => h9) rfl dX7_talk_15 ?_
    refine lv_bipush (v := (nI 6)) hx hb dX7_talk_18 (by decide) ?_
    refine x_icmp_ne (tgt := 26) hx hb dX7_talk_20 (by decide) (by omega) (by omega) (fun h7 => False.elim (by omega)) (fun h7 => ?_)
    refine lv_bipush (v := (iI (-3))) hx hb dX7_talk_23 (by decide) ?_
    exact x_iret hx hb hr hlocks dX7_talk_25 rfl (post := fun (r : Int32) (_ : Unit) => r = (iI (-3))) (w1 := fun (_ : Unit) => [(rr, eMod ad len kp uo tm em pc0)]) () rfl hK hP hD hS
  · exact False.elim (by omega)

set_option maxRecDepth 100000 in
set_option maxHeartbeats 4000000 in
theorem c_X7_ear_ok (l : Launch) (D : va_G) (cI cC : ClassId) (rr : Nat) (ad : Nat → Nat) (len : Nat) (kp : Nat) (uo : Nat) (tm : Nat) (em : Nat) (pc0 : Nat) (ea : Nat → Nat) (eb : Nat → Nat) (eh : Nat → Nat) (x : Nat) (y : Nat) (z : Nat) (hxx : x ≤ 40 ∧ y ≤ 149 ∧ z ≤ 8 ∧ em < 9) : mtI l D cI cC yX7_ear wsX7_ear ({ frames := 2, cells := 0, slots := 0, locals := 45 }) [.ref rr, .int (nI x), .int (nI y), .int (nI z)] [(rr, eMod ad len kp uo tm em pc0), (ad 16, eArr cI 9 ea), (ad 17, eArr cI 9 eb), (ad 18, eArr cI 9 eh)] (fun (r : Int32) (_ : Unit) => r = (nI (em + 1))) (fun (_ : Unit) => [(rr, eMod ad len kp uo tm (em + 1) pc0), (ad 16, eArr cI 9 (upN ea em x)), (ad 17, eArr cI 9 (upN eb em y)), (ad 18, eArr cI 9 (upN eh em z))]) := by
  refine mtI_of (cc := cX7_ear) (maxL := 4) (ret := (some .int)) (by decide) rfl rfl ?_
  intro p e s m below meth c A hx hb hml hr hts hown hlocks hN hA hK hP hD hS ls hl
  have hown : s.vm.findClass RX7 = some m.cls := hown
  have hl : lv_has ls 4 [(0, .ref rr), (1, .int (nI x)), (2, .int (nI y)), (3, .int (nI z))] := hl
  obtain ⟨H, hHe⟩ : ∃ H, H = s.heap := ⟨_, rfl⟩
  rw [← hHe] at hP ⊢
  have hS : va_S A s.heap H [] := by rw [hHe]; exact va_S.rf
  have fl151 := hts (.fieldLink RX7 151 "EchoPaysRentModel" "earMany" "I") (by decide +kernel)
  have inX7 : ∀ w ∈ wsX70, w ∈ wsX7_ear := by decide +kernel
  have fl55 := hts (.fieldLink RX7 55 "EchoPaysRentModel" "earAt" "[I") (by decide +kernel)
  have fl58 := hts (.fieldLink RX7 58 "EchoPaysRentModel" "earBeat" "[I") (by decide +kernel)
  have fl61 := hts (.fieldLink RX7 61 "EchoPaysRentModel" "earHeard" "[I") (by decide +kernel)
  refine lv_iload_n hx hb dX7_ear_0 rfl (lv_at hl 1 rfl) ?_
  refine k_S (As := [.int (iI (((x : Nat) : Int)))]) (wr := [(rr, eMod ad len kp uo tm em pc0), (ad 16, eArr cI 9 ea), (ad 17, eArr cI 9 eb), (ad 18, eArr cI 9 eh)]) ⟨hx, hb, hml, hown, hts⟩ (c_X7_isYard l D cI cC (((x : Nat) : Int)) (by omega)) (cwS 1 hts gX7_ear_X7_isYard rfl rfl rfl (by decide +kernel) ⟨Nat.le_of_ble_eq_true rfl, Nat.le_of_ble_eq_true rfl⟩) rfl hl.1 (by simp only [nI_iI]; rfl) (Nat.le_of_ble_eq_true rfl) dX7_ear_1 ⟨Nat.zero_le _, Nat.zero_le _⟩ hN hK hP hD hS hA [] [0, 1, 2, 3] rfl rfl ⟨rfl, rfl, by decide⟩ (fun r1 u H locs w2 hP hD hS => ?_)
  obtain ⟨rfl, h3, h4⟩ | ⟨rfl, h5⟩ : (r1 = (nI 1) ∧ 0 ≤ (((x : Nat) : Int)) ∧ (((x : Nat) : Int)) ≤ 40) ∨ (r1 = (nI 0) ∧ ((((x : Nat) : Int)) < 0 ∨ 40 < (((x : Nat) : Int)))) := w2
  · refine x_if_eq (tgt := 31) hx hb dX7_ear_4 (by decide) (by omega) (fun h6 => False.elim (by omega)) (fun h6 => ?_)
    refine lv_iload_n hx hb dX7_ear_7 rfl (lv_at hl 2 rfl) ?_
    refine n_i2l hx hb dX7_ear_8 (by omega) ?_
    refine lv_lconst (v := lN 0) hx hb dX7_ear_9 rfl ?_
    refine lv_ldc2 (v := lN 149) hx hb hown (hts (.constantLong RX7 189 149) (by decide +kernel)) dX7_ear_10 ?_
    refine k_S (As := [.long (lI (((y : Nat) : Int))), .long (lI (((0 : Nat) : Int))), .long (lI (((149 : Nat) : Int)))]) (wr := [(rr, eMod ad len kp uo tm em pc0), (ad 16, eArr cI 9 ea), (ad 17, eArr cI 9 eb), (ad 18, eArr cI 9 eh)]) ⟨hx, hb, hml, hown, hts⟩ (c_X7_in l D cI cC (((y : Nat) : Int)) (((0 : Nat) : Int)) (((149 : Nat) : Int)) (by omega) (by omega) (by omega)) (cwS 3 hts gX7_ear_X7_in rfl rfl rfl (by decide +kernel) ⟨Nat.le_of_ble_eq_true rfl, Nat.le_of_ble_eq_true rfl⟩) rfl hl.1 (by simp only [nI_iI, lN_lI]; rfl) (Nat.le_of_ble_eq_true rfl) dX7_ear_13 ⟨Nat.zero_le _, Nat.zero_le _⟩ hN hK hP hD hS hA [] [0, 1, 2, 3] rfl rfl ⟨rfl, rfl, by decide⟩ (fun r7 u H locs w8 hP hD hS => ?_)
    obtain ⟨rfl, h9, h10⟩ | ⟨rfl, h11⟩ : (r7 = (nI 1) ∧ (((0 : Nat) : Int)) ≤ (((y : Nat) : Int)) ∧ (((y : Nat) : Int)) ≤ (((149 : Nat) : Int))) ∨ (r7 = (nI 0) ∧ ((((y : Nat) : Int)) < (((0 : Nat) : Int)) ∨ (((149 : Nat) : Int)) < (((y : Nat) : Int)))) := w8
    · refine x_if_eq (tgt := 31) hx hb dX7_ear_16 (by decide) (by omega) (fun h12 => False.elim (by omega)) (fun h12 => ?_)
      refine lv_iload_n hx hb dX7_ear_19 rfl (lv_at hl 3 rfl) ?_
      refine n_i2l hx hb dX7_ear_20 (by omega) ?_
      refine lv_lconst (v := lN 0) hx hb dX7_ear_21 rfl ?_
      refine lv_ldc2 (v := lN 8) hx hb hown (hts (.constantLong RX7 80 8) (by decide +kernel)) dX7_ear_22 ?_
      refine k_S (As := [.long (lI (((z : Nat) : Int))), .long (lI (((0 : Nat) : Int))), .long (lI (((8 : Nat) : Int)))]) (wr := [(rr, eMod ad len kp uo tm em pc0), (ad 16, eArr cI 9 ea), (ad 17, eArr cI 9 eb), (ad 18, eArr cI 9 eh)]) ⟨hx, hb, hml, hown, hts⟩ (c_X7_in l D cI cC (((z : Nat) : Int)) (((0 : Nat) : Int)) (((8 : Nat) : Int)) (by omega) (by omega) (by omega)) (cwS 3 hts gX7_ear_X7_in rfl rfl rfl (by decide +kernel) ⟨Nat.le_of_ble_eq_true rfl, Nat.le_of_ble_eq_true rfl⟩) rfl hl.1 (by simp only [nI_iI, lN_lI]; rfl) (Nat.le_of_ble_eq_true rfl) dX7_ear_25 ⟨Nat.zero_le _, Nat.zero_le _⟩ hN hK hP hD hS hA [] [0, 1, 2, 3] rfl rfl ⟨rfl, rfl, by decide⟩ (fun r13 u H locs w14 hP hD hS => ?_)
      obtain ⟨rfl, h15, h16⟩ | ⟨rfl, h17⟩ : (r13 = (nI 1) ∧ (((0 : Nat) : Int)) ≤ (((z : Nat) : Int)) ∧ (((z : Nat) : Int)) ≤ (((8 : Nat) : Int))) ∨ (r13 = (nI 0) ∧ ((((z : Nat) : Int)) < (((0 : Nat) : Int)) ∨ (((8 : Nat) : Int)) < (((z : Nat) : Int)))) := w14
      · refine x_if_ne (tgt := 33) hx hb dX7_ear_28 (by decide) (by omega) (fun h18 => ?_) (fun h18 => False.elim (by omega))
        refine lv_aload_n hx hb dX7_ear_33 rfl (lv_at hl 0 rfl) ?_
        refine va_get (D := D) (ci := 7) (v := .int (nI em)) (C := RX7) (T := TX7) (N := 28) hx hb hts inX7 hown hK hP 0 rfl rfl 19 (by decide) fl151 (fun _ h9 => h9) rfl dX7_ear_34 ?_
        refine lv_bipush (v := (nI 9)) hx hb dX7_ear_37 (by decide) ?_
        refine x_icmp_ne (tgt := 45) hx hb dX7_ear_39 (by decide) (by omega) (by omega) (fun h19 => ?_) (fun h19 => False.elim (by omega))
        refine lv_aload_n hx hb dX7_ear_45 rfl (lv_at hl 0 rfl) ?_
        refine va_get (D := D) (ci := 7) (v := .ref (ad 16)) (C := RX7) (T := TX7) (N := 28) hx hb hts inX7 hown hK hP 0 rfl rfl 20 (by decide) fl55 (fun _ h9 => h9) rfl dX7_ear_46 ?_
        refine lv_aload_n hx hb dX7_ear_49 rfl (lv_at hl 0 rfl) ?_
        refine va_get (D := D) (ci := 7) (v := .int (nI em)) (C := RX7) (T := TX7) (N := 28) hx hb hts inX7 hown hK hP 0 rfl rfl 19 (by decide) fl151 (fun _ h9 => h9) rfl dX7_ear_50 ?_
        refine lv_iload_n hx hb dX7_ear_53 rfl (lv_at hl 1 rfl) ?_
        refine x_iast (A := A) hx hb hK hP hD hS 1 0 rfl rfl dX7_ear_54 (by omega) (by omega) (fun H locs hP hD hS => ?_)
        have hP : va_P D vwCl [(rr, eMod ad len kp uo tm em pc0), (ad 16, eArr cI 9 (upN ea em x)), (ad 17, eArr cI 9 eb), (ad 18, eArr cI 9 eh)] H := by have h := hP; rw [upd_nI] at h; exact h
        have hD : va_D A [(rr, eMod ad len kp uo tm em pc0), (ad 16, eArr cI 9 (upN ea em x)), (ad 17, eArr cI 9 eb), (ad 18, eArr cI 9 eh)] := by have h := hD; rw [upd_nI] at h; exact h
        refine lv_aload_n hx hb dX7_ear_55 rfl (lv_at hl 0 rfl) ?_
        refine va_get (D := D) (ci := 7) (v := .ref (ad 17)) (C := RX7) (T := TX7) (N := 28) hx hb hts inX7 hown hK hP 0 rfl rfl 21 (by decide) fl58 (fun _ h9 => h9) rfl dX7_ear_56 ?_
        refine lv_aload_n hx hb dX7_ear_59 rfl (lv_at hl 0 rfl) ?_
        refine va_get (D := D) (ci := 7) (v := .int (nI em)) (C := RX7) (T := TX7) (N := 28) hx hb hts inX7 hown hK hP 0 rfl rfl 19 (by decide) fl151 (fun _ h9 => h9) rfl dX7_ear_60 ?_
        refine lv_iload_n hx hb dX7_ear_63 rfl (lv_at hl 2 rfl) ?_
        refine x_iast (A := A) hx hb hK hP hD hS 2 0 rfl rfl dX7_ear_64 (by omega) (by omega) (fun H locs hP hD hS => ?_)
        have hP : va_P D vwCl [(rr, eMod ad len kp uo tm em pc0), (ad 16, eArr cI 9 (upN ea em x)), (ad 17, eArr cI 9 (upN eb em y)), (ad 18, eArr cI 9 eh)] H := by have h := hP; rw [upd_nI] at h; exact h
        have hD : va_D A [(rr, eMod ad len kp uo tm em pc0), (ad 16, eArr cI 9 (upN ea em x)), (ad 17, eArr cI 9 (upN eb em y)), (ad 18, eArr cI 9 eh)] := by have h := hD; rw [upd_nI] at h; exact h
        refine lv_aload_n hx hb dX7_ear_65 rfl (lv_at hl 0 rfl) ?_
        refine va_get (D := D) (ci := 7) (v := .ref (ad 18)) (C := RX7) (T := TX7) (N := 28) hx hb hts inX7 hown hK hP 0 rfl rfl 22 (by decide) fl61 (fun _ h9 => h9) rfl dX7_ear_66 ?_
        refine lv_aload_n hx hb dX7_ear_69 rfl (lv_at hl 0 rfl) ?_
        refine va_get (D := D) (ci := 7) (v := .int (nI em)) (C := RX7) (T := TX7) (N := 28) hx hb hts inX7 hown hK hP 0 rfl rfl 19 (by decide) fl151 (fun _ h9 => h9) rfl dX7_ear_70 ?_
        refine lv_iload_n hx hb dX7_ear_73 rfl (lv_at hl 3 rfl) ?_
        refine x_iast (A := A) hx hb hK hP hD hS 3 0 rfl rfl dX7_ear_74 (by omega) (by omega) (fun H locs hP hD hS => ?_)
        have hP : va_P D vwCl [(rr, eMod ad len kp uo tm em pc0), (ad 16, eArr cI 9 (upN ea em x)), (ad 17, eArr cI 9 (upN eb em y)), (ad 18, eArr cI 9 (upN eh em z))] H := by have h := hP; rw [upd_nI] at h; exact h
        have hD : va_D A [(rr, eMod ad len kp uo tm em pc0), (ad 16, eArr cI 9 (upN ea em x)), (ad 17, eArr cI 9 (upN eb em y)), (ad 18, eArr cI 9 (upN eh em z))] := by have h := hD; rw [upd_nI] at h; exact h
        refine lv_aload_n hx hb dX7_ear_75 rfl (lv_at hl 0 rfl) ?_
        refine lv_dup hx hb dX7_ear_76 rfl ?_
        refine va_get (D := D) (ci := 7) (v := .int (nI em)) (C := RX7) (T := TX7) (N := 28) hx hb hts inX7 hown hK hP 0 rfl rfl 19 (by decide) fl151 (fun _ h9 => h9) rfl dX7_ear_77 ?_
        refine lv_iconst (v := (nI 1)) hx hb dX7_ear_80 (by decide) ?_
        refine x_iadd hx hb dX7_ear_81 ?_
        refine va_put (D := D) (ci := 7) (v := .int (nI (em + 1))) (ty := .int) (C := RX7) (T := TX7) (N := 28) hx hb hts inX7 tyX7 tyX7_ok nmX7 hown hK hP hD hS 0 rfl rfl 19 (by decide) fl151 (fun _ h9 => h9) rfl (by decide +kernel) rfl rfl (Nat.le_of_ble_eq_true rfl) dX7_ear_82 (fun H locs hP hD hS => ?_)
        have hP : va_P D vwCl [(rr, eMod ad len kp uo tm (em + 1) pc0), (ad 16, eArr cI 9 (upN ea em x)), (ad 17, eArr cI 9 (upN eb em y)), (ad 18, eArr cI 9 (upN eh em z))] H := hP
        have hD : va_D A [(rr, eMod ad len kp uo tm (em + 1) pc0), (ad 16, eArr cI 9 (upN ea em x)), (ad 17, eArr cI 9 (upN eb em y)), (ad 18, eArr cI 9 (upN eh em z))] := hD
        refine lv_aload_n hx hb dX7_ear_85 rfl (lv_at hl 0 rfl) ?_
        refine va_get (D := D) (ci := 7) (v := .int (nI (em + 1))) (C := RX7) (T := TX7) (N := 28) hx hb hts inX7 hown hK hP 0 rfl rfl 19 (by decide) fl151 (fun _ h9 => h9) rfl dX7_ear_86 ?_
        exact x_iret hx hb hr hlocks dX7_ear_89 rfl (post := fun (r : Int32) (_ : Unit) => r = (nI (em + 1))) (w1 := fun (_ : Unit) => [(rr, eMod ad len kp uo tm (em + 1) pc0), (ad 16, eArr cI 9 (upN ea em x)), (ad 17, eArr cI 9 (upN eb em y)), (ad 18, eArr cI 9 (upN eh em z))]) () rfl hK hP hD hS
      · exact False.elim (by omega)
    · exact False.elim (by omega)
  · exact False.elim (by omega)

set_option maxRecDepth 100000 in
set_option maxHeartbeats 4000000 in
theorem c_X7_ear_full (l : Launch) (D : va_G) (cI cC : ClassId) (rr : Nat) (ad : Nat → Nat) (len : Nat) (kp : Nat) (uo : Nat) (tm : Nat) (em : Nat) (pc0 : Nat) (x : Nat) (y : Nat) (z : Nat) (hxx : x ≤ 40 ∧ y ≤ 149 ∧ z ≤ 8 ∧ em = 9) : mtI l D cI cC yX7_ear wsX7_ear ({ frames := 2, cells := 0, slots := 0, locals := 45 }) [.ref rr, .int (nI x), .int (nI y), .int (nI z)] [(rr, eMod ad len kp uo tm em pc0)] (fun (r : Int32) (_ : Unit) => r = (iI (-3))) (fun (_ : Unit) => [(rr, eMod ad len kp uo tm em pc0)]) := by
  refine mtI_of (cc := cX7_ear) (maxL := 4) (ret := (some .int)) (by decide) rfl rfl ?_
  intro p e s m below meth c A hx hb hml hr hts hown hlocks hN hA hK hP hD hS ls hl
  have hown : s.vm.findClass RX7 = some m.cls := hown
  have hl : lv_has ls 4 [(0, .ref rr), (1, .int (nI x)), (2, .int (nI y)), (3, .int (nI z))] := hl
  obtain ⟨H, hHe⟩ : ∃ H, H = s.heap := ⟨_, rfl⟩
  rw [← hHe] at hP ⊢
  have hS : va_S A s.heap H [] := by rw [hHe]; exact va_S.rf
  have fl151 := hts (.fieldLink RX7 151 "EchoPaysRentModel" "earMany" "I") (by decide +kernel)
  have inX7 : ∀ w ∈ wsX70, w ∈ wsX7_ear := by decide +kernel
  refine lv_iload_n hx hb dX7_ear_0 rfl (lv_at hl 1 rfl) ?_
  refine k_S (As := [.int (iI (((x : Nat) : Int)))]) (wr := [(rr, eMod ad len kp uo tm em pc0)]) ⟨hx, hb, hml, hown, hts⟩ (c_X7_isYard l D cI cC (((x : Nat) : Int)) (by omega)) (cwS 1 hts gX7_ear_X7_isYard rfl rfl rfl (by decide +kernel) ⟨Nat.le_of_ble_eq_true rfl, Nat.le_of_ble_eq_true rfl⟩) rfl hl.1 (by simp only [nI_iI]; rfl) (Nat.le_of_ble_eq_true rfl) dX7_ear_1 ⟨Nat.zero_le _, Nat.zero_le _⟩ hN hK hP hD hS hA [] [0] rfl rfl ⟨rfl, rfl, by decide⟩ (fun r1 u H locs w2 hP hD hS => ?_)
  obtain ⟨rfl, h3, h4⟩ | ⟨rfl, h5⟩ : (r1 = (nI 1) ∧ 0 ≤ (((x : Nat) : Int)) ∧ (((x : Nat) : Int)) ≤ 40) ∨ (r1 = (nI 0) ∧ ((((x : Nat) : Int)) < 0 ∨ 40 < (((x : Nat) : Int)))) := w2
  · refine x_if_eq (tgt := 31) hx hb dX7_ear_4 (by decide) (by omega) (fun h6 => False.elim (by omega)) (fun h6 => ?_)
    refine lv_iload_n hx hb dX7_ear_7 rfl (lv_at hl 2 rfl) ?_
    refine n_i2l hx hb dX7_ear_8 (by omega) ?_
    refine lv_lconst (v := lN 0) hx hb dX7_ear_9 rfl ?_
    refine lv_ldc2 (v := lN 149) hx hb hown (hts (.constantLong RX7 189 149) (by decide +kernel)) dX7_ear_10 ?_
    refine k_S (As := [.long (lI (((y : Nat) : Int))), .long (lI (((0 : Nat) : Int))), .long (lI (((149 : Nat) : Int)))]) (wr := [(rr, eMod ad len kp uo tm em pc0)]) ⟨hx, hb, hml, hown, hts⟩ (c_X7_in l D cI cC (((y : Nat) : Int)) (((0 : Nat) : Int)) (((149 : Nat) : Int)) (by omega) (by omega) (by omega)) (cwS 3 hts gX7_ear_X7_in rfl rfl rfl (by decide +kernel) ⟨Nat.le_of_ble_eq_true rfl, Nat.le_of_ble_eq_true rfl⟩) rfl hl.1 (by simp only [nI_iI, lN_lI]; rfl) (Nat.le_of_ble_eq_true rfl) dX7_ear_13 ⟨Nat.zero_le _, Nat.zero_le _⟩ hN hK hP hD hS hA [] [0] rfl rfl ⟨rfl, rfl, by decide⟩ (fun r7 u H locs w8 hP hD hS => ?_)
    obtain ⟨rfl, h9, h10⟩ | ⟨rfl, h11⟩ : (r7 = (nI 1) ∧ (((0 : Nat) : Int)) ≤ (((y : Nat) : Int)) ∧ (((y : Nat) : Int)) ≤ (((149 : Nat) : Int))) ∨ (r7 = (nI 0) ∧ ((((y : Nat) : Int)) < (((0 : Nat) : Int)) ∨ (((149 : Nat) : Int)) < (((y : Nat) : Int)))) := w8
    · refine x_if_eq (tgt := 31) hx hb dX7_ear_16 (by decide) (by omega) (fun h12 => False.elim (by omega)) (fun h12 => ?_)
      refine lv_iload_n hx hb dX7_ear_19 rfl (lv_at hl 3 rfl) ?_
      refine n_i2l hx hb dX7_ear_20 (by omega) ?_
      refine lv_lconst (v := lN 0) hx hb dX7_ear_21 rfl ?_
      refine lv_ldc2 (v := lN 8) hx hb hown (hts (.constantLong RX7 80 8) (by decide +kernel)) dX7_ear_22 ?_
      refine k_S (As := [.long (lI (((z : Nat) : Int))), .long (lI (((0 : Nat) : Int))), .long (lI (((8 : Nat) : Int)))]) (wr := [(rr, eMod ad len kp uo tm em pc0)]) ⟨hx, hb, hml, hown, hts⟩ (c_X7_in l D cI cC (((z : Nat) : Int)) (((0 : Nat) : Int)) (((8 : Nat) : Int)) (by omega) (by omega) (by omega)) (cwS 3 hts gX7_ear_X7_in rfl rfl rfl (by decide +kernel) ⟨Nat.le_of_ble_eq_true rfl, Nat.le_of_ble_eq_true rfl⟩) rfl hl.1 (by simp only [nI_iI, lN_lI]; rfl) (Nat.le_of_ble_eq_true rfl) dX7_ear_25 ⟨Nat.zero_le _, Nat.zero_le _⟩ hN hK hP hD hS hA [] [0] rfl rfl ⟨rfl, rfl, by decide⟩ (fun r13 u H locs w14 hP hD hS => ?_)
      obtain ⟨rfl, h15, h16⟩ | ⟨rfl, h17⟩ : (r13 = (nI 1) ∧ (((0 : Nat) : Int)) ≤ (((z : Nat) : Int)) ∧ (((z : Nat) : Int)) ≤ (((8 : Nat) : Int))) ∨ (r13 = (nI 0) ∧ ((((z : Nat) : Int)) < (((0 : Nat) : Int)) ∨ (((8 : Nat) : Int)) < (((z : Nat) : Int)))) := w14
      · refine x_if_ne (tgt := 33) hx hb dX7_ear_28 (by decide) (by omega) (fun h18 => ?_) (fun h18 => False.elim (by omega))
        refine lv_aload_n hx hb dX7_ear_33 rfl (lv_at hl 0 rfl) ?_
        refine va_get (D := D) (ci := 7) (v := .int (nI em)) (C := RX7) (T := TX7) (N := 28) hx hb hts inX7 hown hK hP 0 rfl rfl 19 (by decide) fl151 (fun _ h9 => h9) rfl dX7_ear_34 ?_
        refine lv_bipush (v := (nI 9)) hx hb dX7_ear_37 (by decide) ?_
        refine x_icmp_ne (tgt := 45) hx hb dX7_ear_39 (by decide) (by omega) (by omega) (fun h19 => False.elim (by omega)) (fun h19 => ?_)
        refine lv_bipush (v := (iI (-3))) hx hb dX7_ear_42 (by decide) ?_
        exact x_iret hx hb hr hlocks dX7_ear_44 rfl (post := fun (r : Int32) (_ : Unit) => r = (iI (-3))) (w1 := fun (_ : Unit) => [(rr, eMod ad len kp uo tm em pc0)]) () rfl hK hP hD hS
      · exact False.elim (by omega)
    · exact False.elim (by omega)
  · exact False.elim (by omega)

set_option maxRecDepth 100000 in
set_option maxHeartbeats 4000000 in
theorem c_X7_count_bad (l : Launch) (D : va_G) (cI cC : ClassId) (rr : Nat) (ad : Nat → Nat) (len : Nat) (kp : Nat) (uo : Nat) (tm : Nat) (em : Nat) (pc0 : Nat) (z : Int) (hz : -2147483648 ≤ z ∧ z < 2147483648) (hbad : z < 0 ∨ 9 < z) : mtI l D cI cC yX7_count wsX7_count ({ frames := 0, cells := 0, slots := 0, locals := 0 }) [.ref rr, .int (iI z)] [(rr, eMod ad len kp uo tm em pc0)] (fun (r : Int32) (_ : Unit) => r = (iI (-1))) (fun (_ : Unit) => [(rr, eMod ad len kp uo tm em pc0)]) := by
  refine mtI_of (cc := cX7_count) (maxL := 2) (ret := (some .int)) (by decide) rfl rfl ?_
  intro p e s m below meth c A hx hb hml hr hts hown hlocks hN hA hK hP hD hS ls hl
  have hown : s.vm.findClass RX7 = some m.cls := hown
  have hl : lv_has ls 2 [(0, .ref rr), (1, .int (iI z))] := hl
  obtain ⟨H, hHe⟩ : ∃ H, H = s.heap := ⟨_, rfl⟩
  rw [← hHe] at hP ⊢
  have hS : va_S A s.heap H [] := by rw [hHe]; exact va_S.rf
  refine lv_iload_n hx hb dX7_count_0 rfl (lv_at hl 1 rfl) ?_
  refine lv_tableOut (tgt := 116) hx hb dX7_count_1 (by rw [iI_toInt (by omega) (by omega)]; omega) (by decide) ?_
  refine lv_iconst (v := (iI (-1))) hx hb dX7_count_116 (by decide) ?_
  exact x_iret hx hb hr hlocks dX7_count_117 rfl (post := fun (r : Int32) (_ : Unit) => r = (iI (-1))) (w1 := fun (_ : Unit) => [(rr, eMod ad len kp uo tm em pc0)]) () rfl hK hP hD hS

set_option maxRecDepth 100000 in
set_option maxHeartbeats 4000000 in
theorem c_X7_count_0 (l : Launch) (D : va_G) (cI cC : ClassId) (rr : Nat) (ad : Nat → Nat) (len : Nat) (kp : Nat) (uo : Nat) (tm : Nat) (em : Nat) (pc0 : Nat) (fm : Nat → Nat) : mtI l D cI cC yX7_count wsX7_count ({ frames := 0, cells := 0, slots := 0, locals := 0 }) [.ref rr, .int (nI 0)] [(rr, eMod ad len kp uo tm em pc0), (ad 2, eArr cI 2 fm)] (fun (r : Int32) (_ : Unit) => r = (nI (fm 0))) (fun (_ : Unit) => [(rr, eMod ad len kp uo tm em pc0), (ad 2, eArr cI 2 fm)]) := by
  refine mtI_of (cc := cX7_count) (maxL := 2) (ret := (some .int)) (by decide) rfl rfl ?_
  intro p e s m below meth c A hx hb hml hr hts hown hlocks hN hA hK hP hD hS ls hl
  have hown : s.vm.findClass RX7 = some m.cls := hown
  have hl : lv_has ls 2 [(0, .ref rr), (1, .int (nI 0))] := hl
  obtain ⟨H, hHe⟩ : ∃ H, H = s.heap := ⟨_, rfl⟩
  rw [← hHe] at hP ⊢
  have hS : va_S A s.heap H [] := by rw [hHe]; exact va_S.rf
  have fl13 := hts (.fieldLink RX7 13 "EchoPaysRentModel" "faceMany" "[I") (by decide +kernel)
  have inX7 : ∀ w ∈ wsX70, w ∈ wsX7_count := by decide +kernel
  refine lv_iload_n hx hb dX7_count_0 rfl (lv_at hl 1 rfl) ?_
  refine lv_tableIn (tgt := 56) hx hb dX7_count_1 (by decide) (by decide) rfl (by decide) ?_
  refine lv_aload_n hx hb dX7_count_56 rfl (lv_at hl 0 rfl) ?_
  refine va_get (D := D) (ci := 7) (v := .ref (ad 2)) (C := RX7) (T := TX7) (N := 28) hx hb hts inX7 hown hK hP 0 rfl rfl 2 (by decide) fl13 (fun _ h9 => h9) rfl dX7_count_57 ?_
  refine lv_iconst (v := (nI 0)) hx hb dX7_count_60 (by decide) ?_
  refine x_iald (A := A) hx hb hK hP 1 0 rfl rfl dX7_count_61 (by omega) (by omega) ?_
  exact x_iret hx hb hr hlocks dX7_count_62 rfl (post := fun (r : Int32) (_ : Unit) => r = (nI (fm 0))) (w1 := fun (_ : Unit) => [(rr, eMod ad len kp uo tm em pc0), (ad 2, eArr cI 2 fm)]) () rfl hK hP hD hS

set_option maxRecDepth 100000 in
set_option maxHeartbeats 4000000 in
theorem c_X7_count_1 (l : Launch) (D : va_G) (cI cC : ClassId) (rr : Nat) (ad : Nat → Nat) (len : Nat) (kp : Nat) (uo : Nat) (tm : Nat) (em : Nat) (pc0 : Nat) (wma : Nat → Nat) : mtI l D cI cC yX7_count wsX7_count ({ frames := 0, cells := 0, slots := 0, locals := 0 }) [.ref rr, .int (nI 1)] [(rr, eMod ad len kp uo tm em pc0), (ad 7, eArr cI 4 wma)] (fun (r : Int32) (_ : Unit) => r = (nI (wma 0))) (fun (_ : Unit) => [(rr, eMod ad len kp uo tm em pc0), (ad 7, eArr cI 4 wma)]) := by
  refine mtI_of (cc := cX7_count) (maxL := 2) (ret := (some .int)) (by decide) rfl rfl ?_
  intro p e s m below meth c A hx hb hml hr hts hown hlocks hN hA hK hP hD hS ls hl
  have hown : s.vm.findClass RX7 = some m.cls := hown
  have hl : lv_has ls 2 [(0, .ref rr), (1, .int (nI 1))] := hl
  obtain ⟨H, hHe⟩ : ∃ H, H = s.heap := ⟨_, rfl⟩
  rw [← hHe] at hP ⊢
  have hS : va_S A s.heap H [] := by rw [hHe]; exact va_S.rf
  have fl28 := hts (.fieldLink RX7 28 "EchoPaysRentModel" "wordMany" "[I") (by decide +kernel)
  have inX7 : ∀ w ∈ wsX70, w ∈ wsX7_count := by decide +kernel
  refine lv_iload_n hx hb dX7_count_0 rfl (lv_at hl 1 rfl) ?_
  refine lv_tableIn (tgt := 63) hx hb dX7_count_1 (by decide) (by decide) rfl (by decide) ?_
  refine lv_aload_n hx hb dX7_count_63 rfl (lv_at hl 0 rfl) ?_
  refine va_get (D := D) (ci := 7) (v := .ref (ad 7)) (C := RX7) (T := TX7) (N := 28) hx hb hts inX7 hown hK hP 0 rfl rfl 7 (by decide) fl28 (fun _ h9 => h9) rfl dX7_count_64 ?_
  refine lv_iconst (v := (nI 0)) hx hb dX7_count_67 (by decide) ?_
  refine x_iald (A := A) hx hb hK hP 1 0 rfl rfl dX7_count_68 (by omega) (by omega) ?_
  exact x_iret hx hb hr hlocks dX7_count_69 rfl (post := fun (r : Int32) (_ : Unit) => r = (nI (wma 0))) (w1 := fun (_ : Unit) => [(rr, eMod ad len kp uo tm em pc0), (ad 7, eArr cI 4 wma)]) () rfl hK hP hD hS

set_option maxRecDepth 100000 in
set_option maxHeartbeats 4000000 in
theorem c_X7_count_2 (l : Launch) (D : va_G) (cI cC : ClassId) (rr : Nat) (ad : Nat → Nat) (len : Nat) (kp : Nat) (uo : Nat) (tm : Nat) (em : Nat) (pc0 : Nat) (spa : Nat → Nat) : mtI l D cI cC yX7_count wsX7_count ({ frames := 0, cells := 0, slots := 0, locals := 0 }) [.ref rr, .int (nI 2)] [(rr, eMod ad len kp uo tm em pc0), (ad 11, eArr cI 4 spa)] (fun (r : Int32) (_ : Unit) => r = (nI (spa 0))) (fun (_ : Unit) => [(rr, eMod ad len kp uo tm em pc0), (ad 11, eArr cI 4 spa)]) := by
  refine mtI_of (cc := cX7_count) (maxL := 2) (ret := (some .int)) (by decide) rfl rfl ?_
  intro p e s m below meth c A hx hb hml hr hts hown hlocks hN hA hK hP hD hS ls hl
  have hown : s.vm.findClass RX7 = some m.cls := hown
  have hl : lv_has ls 2 [(0, .ref rr), (1, .int (nI 2))] := hl
  obtain ⟨H, hHe⟩ : ∃ H, H = s.heap := ⟨_, rfl⟩
  rw [← hHe] at hP ⊢
  have hS : va_S A s.heap H [] := by rw [hHe]; exact va_S.rf
  have fl40 := hts (.fieldLink RX7 40 "EchoPaysRentModel" "speaker" "[I") (by decide +kernel)
  have inX7 : ∀ w ∈ wsX70, w ∈ wsX7_count := by decide +kernel
  refine lv_iload_n hx hb dX7_count_0 rfl (lv_at hl 1 rfl) ?_
  refine lv_tableIn (tgt := 70) hx hb dX7_count_1 (by decide) (by decide) rfl (by decide) ?_
  refine lv_aload_n hx hb dX7_count_70 rfl (lv_at hl 0 rfl) ?_
  refine va_get (D := D) (ci := 7) (v := .ref (ad 11)) (C := RX7) (T := TX7) (N := 28) hx hb hts inX7 hown hK hP 0 rfl rfl 11 (by decide) fl40 (fun _ h9 => h9) rfl dX7_count_71 ?_
  refine lv_iconst (v := (nI 0)) hx hb dX7_count_74 (by decide) ?_
  refine x_iald (A := A) hx hb hK hP 1 0 rfl rfl dX7_count_75 (by omega) (by omega) ?_
  exact x_iret hx hb hr hlocks dX7_count_76 rfl (post := fun (r : Int32) (_ : Unit) => r = (nI (spa 0))) (w1 := fun (_ : Unit) => [(rr, eMod ad len kp uo tm em pc0), (ad 11, eArr cI 4 spa)]) () rfl hK hP hD hS

set_option maxRecDepth 100000 in
set_option maxHeartbeats 4000000 in
theorem c_X7_count_3 (l : Launch) (D : va_G) (cI cC : ClassId) (rr : Nat) (ad : Nat → Nat) (len : Nat) (kp : Nat) (uo : Nat) (tm : Nat) (em : Nat) (pc0 : Nat) (hea : Nat → Nat) : mtI l D cI cC yX7_count wsX7_count ({ frames := 0, cells := 0, slots := 0, locals := 0 }) [.ref rr, .int (nI 3)] [(rr, eMod ad len kp uo tm em pc0), (ad 12, eArr cI 4 hea)] (fun (r : Int32) (_ : Unit) => r = (nI (hea 0))) (fun (_ : Unit) => [(rr, eMod ad len kp uo tm em pc0), (ad 12, eArr cI 4 hea)]) := by
  refine mtI_of (cc := cX7_count) (maxL := 2) (ret := (some .int)) (by decide) rfl rfl ?_
  intro p e s m below meth c A hx hb hml hr hts hown hlocks hN hA hK hP hD hS ls hl
  have hown : s.vm.findClass RX7 = some m.cls := hown
  have hl : lv_has ls 2 [(0, .ref rr), (1, .int (nI 3))] := hl
  obtain ⟨H, hHe⟩ : ∃ H, H = s.heap := ⟨_, rfl⟩
  rw [← hHe] at hP ⊢
  have hS : va_S A s.heap H [] := by rw [hHe]; exact va_S.rf
  have fl43 := hts (.fieldLink RX7 43 "EchoPaysRentModel" "hearer" "[I") (by decide +kernel)
  have inX7 : ∀ w ∈ wsX70, w ∈ wsX7_count := by decide +kernel
  refine lv_iload_n hx hb dX7_count_0 rfl (lv_at hl 1 rfl) ?_
  refine lv_tableIn (tgt := 77) hx hb dX7_count_1 (by decide) (by decide) rfl (by decide) ?_
  refine lv_aload_n hx hb dX7_count_77 rfl (lv_at hl 0 rfl) ?_
  refine va_get (D := D) (ci := 7) (v := .ref (ad 12)) (C := RX7) (T := TX7) (N := 28) hx hb hts inX7 hown hK hP 0 rfl rfl 12 (by decide) fl43 (fun _ h9 => h9) rfl dX7_count_78 ?_
  refine lv_iconst (v := (nI 0)) hx hb dX7_count_81 (by decide) ?_
  refine x_iald (A := A) hx hb hK hP 1 0 rfl rfl dX7_count_82 (by omega) (by omega) ?_
  exact x_iret hx hb hr hlocks dX7_count_83 rfl (post := fun (r : Int32) (_ : Unit) => r = (nI (hea 0))) (w1 := fun (_ : Unit) => [(rr, eMod ad len kp uo tm em pc0), (ad 12, eArr cI 4 hea)]) () rfl hK hP hD hS

set_option maxRecDepth 100000 in
set_option maxHeartbeats 4000000 in
theorem c_X7_count_4 (l : Launch) (D : va_G) (cI cC : ClassId) (rr : Nat) (ad : Nat → Nat) (len : Nat) (kp : Nat) (uo : Nat) (tm : Nat) (em : Nat) (pc0 : Nat) (ai : Nat → Nat) : mtI l D cI cC yX7_count wsX7_count ({ frames := 0, cells := 0, slots := 0, locals := 0 }) [.ref rr, .int (nI 4)] [(rr, eMod ad len kp uo tm em pc0), (ad 6, eArr cI 2 ai)] (fun (r : Int32) (_ : Unit) => r = (nI (ai 0))) (fun (_ : Unit) => [(rr, eMod ad len kp uo tm em pc0), (ad 6, eArr cI 2 ai)]) := by
  refine mtI_of (cc := cX7_count) (maxL := 2) (ret := (some .int)) (by decide) rfl rfl ?_
  intro p e s m below meth c A hx hb hml hr hts hown hlocks hN hA hK hP hD hS ls hl
  have hown : s.vm.findClass RX7 = some m.cls := hown
  have hl : lv_has ls 2 [(0, .ref rr), (1, .int (nI 4))] := hl
  obtain ⟨H, hHe⟩ : ∃ H, H = s.heap := ⟨_, rfl⟩
  rw [← hHe] at hP ⊢
  have hS : va_S A s.heap H [] := by rw [hHe]; exact va_S.rf
  have fl25 := hts (.fieldLink RX7 25 "EchoPaysRentModel" "air" "[I") (by decide +kernel)
  have inX7 : ∀ w ∈ wsX70, w ∈ wsX7_count := by decide +kernel
  refine lv_iload_n hx hb dX7_count_0 rfl (lv_at hl 1 rfl) ?_
  refine lv_tableIn (tgt := 84) hx hb dX7_count_1 (by decide) (by decide) rfl (by decide) ?_
  refine lv_aload_n hx hb dX7_count_84 rfl (lv_at hl 0 rfl) ?_
  refine va_get (D := D) (ci := 7) (v := .ref (ad 6)) (C := RX7) (T := TX7) (N := 28) hx hb hts inX7 hown hK hP 0 rfl rfl 6 (by decide) fl25 (fun _ h9 => h9) rfl dX7_count_85 ?_
  refine lv_iconst (v := (nI 0)) hx hb dX7_count_88 (by decide) ?_
  refine x_iald (A := A) hx hb hK hP 1 0 rfl rfl dX7_count_89 (by omega) (by omega) ?_
  exact x_iret hx hb hr hlocks dX7_count_90 rfl (post := fun (r : Int32) (_ : Unit) => r = (nI (ai 0))) (w1 := fun (_ : Unit) => [(rr, eMod ad len kp uo tm em pc0), (ad 6, eArr cI 2 ai)]) () rfl hK hP hD hS

set_option maxRecDepth 100000 in
set_option maxHeartbeats 4000000 in
theorem c_X7_count_5 (l : Launch) (D : va_G) (cI cC : ClassId) (rr : Nat) (ad : Nat → Nat) (len : Nat) (kp : Nat) (uo : Nat) (tm : Nat) (em : Nat) (pc0 : Nat) : mtI l D cI cC yX7_count wsX7_count ({ frames := 0, cells := 0, slots := 0, locals := 0 }) [.ref rr, .int (nI 5)] [(rr, eMod ad len kp uo tm em pc0)] (fun (r : Int32) (_ : Unit) => r = (nI tm)) (fun (_ : Unit) => [(rr, eMod ad len kp uo tm em pc0)]) := by
  refine mtI_of (cc := cX7_count) (maxL := 2) (ret := (some .int)) (by decide) rfl rfl ?_
  intro p e s m below meth c A hx hb hml hr hts hown hlocks hN hA hK hP hD hS ls hl
  have hown : s.vm.findClass RX7 = some m.cls := hown
  have hl : lv_has ls 2 [(0, .ref rr), (1, .int (nI 5))] := hl
  obtain ⟨H, hHe⟩ : ∃ H, H = s.heap := ⟨_, rfl⟩
  rw [← hHe] at hP ⊢
  have hS : va_S A s.heap H [] := by rw [hHe]; exact va_S.rf
  have fl148 := hts (.fieldLink RX7 148 "EchoPaysRentModel" "talkMany" "I") (by decide +kernel)
  have inX7 : ∀ w ∈ wsX70, w ∈ wsX7_count := by decide +kernel
  refine lv_iload_n hx hb dX7_count_0 rfl (lv_at hl 1 rfl) ?_
  refine lv_tableIn (tgt := 91) hx hb dX7_count_1 (by decide) (by decide) rfl (by decide) ?_
  refine lv_aload_n hx hb dX7_count_91 rfl (lv_at hl 0 rfl) ?_
  refine va_get (D := D) (ci := 7) (v := .int (nI tm)) (C := RX7) (T := TX7) (N := 28) hx hb hts inX7 hown hK hP 0 rfl rfl 17 (by decide) fl148 (fun _ h9 => h9) rfl dX7_count_92 ?_
  exact x_iret hx hb hr hlocks dX7_count_95 rfl (post := fun (r : Int32) (_ : Unit) => r = (nI tm)) (w1 := fun (_ : Unit) => [(rr, eMod ad len kp uo tm em pc0)]) () rfl hK hP hD hS

set_option maxRecDepth 100000 in
set_option maxHeartbeats 4000000 in
theorem c_X7_count_6 (l : Launch) (D : va_G) (cI cC : ClassId) (rr : Nat) (ad : Nat → Nat) (len : Nat) (kp : Nat) (uo : Nat) (tm : Nat) (em : Nat) (pc0 : Nat) : mtI l D cI cC yX7_count wsX7_count ({ frames := 0, cells := 0, slots := 0, locals := 0 }) [.ref rr, .int (nI 6)] [(rr, eMod ad len kp uo tm em pc0)] (fun (r : Int32) (_ : Unit) => r = (nI em)) (fun (_ : Unit) => [(rr, eMod ad len kp uo tm em pc0)]) := by
  refine mtI_of (cc := cX7_count) (maxL := 2) (ret := (some .int)) (by decide) rfl rfl ?_
  intro p e s m below meth c A hx hb hml hr hts hown hlocks hN hA hK hP hD hS ls hl
  have hown : s.vm.findClass RX7 = some m.cls := hown
  have hl : lv_has ls 2 [(0, .ref rr), (1, .int (nI 6))] := hl
  obtain ⟨H, hHe⟩ : ∃ H, H = s.heap := ⟨_, rfl⟩
  rw [← hHe] at hP ⊢
  have hS : va_S A s.heap H [] := by rw [hHe]; exact va_S.rf
  have fl151 := hts (.fieldLink RX7 151 "EchoPaysRentModel" "earMany" "I") (by decide +kernel)
  have inX7 : ∀ w ∈ wsX70, w ∈ wsX7_count := by decide +kernel
  refine lv_iload_n hx hb dX7_count_0 rfl (lv_at hl 1 rfl) ?_
  refine lv_tableIn (tgt := 96) hx hb dX7_count_1 (by decide) (by decide) rfl (by decide) ?_
  refine lv_aload_n hx hb dX7_count_96 rfl (lv_at hl 0 rfl) ?_
  refine va_get (D := D) (ci := 7) (v := .int (nI em)) (C := RX7) (T := TX7) (N := 28) hx hb hts inX7 hown hK hP 0 rfl rfl 19 (by decide) fl151 (fun _ h9 => h9) rfl dX7_count_97 ?_
  exact x_iret hx hb hr hlocks dX7_count_100 rfl (post := fun (r : Int32) (_ : Unit) => r = (nI em)) (w1 := fun (_ : Unit) => [(rr, eMod ad len kp uo tm em pc0)]) () rfl hK hP hD hS

set_option maxRecDepth 100000 in
set_option maxHeartbeats 4000000 in
theorem c_X7_count_7 (l : Launch) (D : va_G) (cI cC : ClassId) (rr : Nat) (ad : Nat → Nat) (len : Nat) (kp : Nat) (uo : Nat) (tm : Nat) (em : Nat) (pc0 : Nat) : mtI l D cI cC yX7_count wsX7_count ({ frames := 0, cells := 0, slots := 0, locals := 0 }) [.ref rr, .int (nI 7)] [(rr, eMod ad len kp uo tm em pc0)] (fun (r : Int32) (_ : Unit) => r = (nI uo)) (fun (_ : Unit) => [(rr, eMod ad len kp uo tm em pc0)]) := by
  refine mtI_of (cc := cX7_count) (maxL := 2) (ret := (some .int)) (by decide) rfl rfl ?_
  intro p e s m below meth c A hx hb hml hr hts hown hlocks hN hA hK hP hD hS ls hl
  have hown : s.vm.findClass RX7 = some m.cls := hown
  have hl : lv_has ls 2 [(0, .ref rr), (1, .int (nI 7))] := hl
  obtain ⟨H, hHe⟩ : ∃ H, H = s.heap := ⟨_, rfl⟩
  rw [← hHe] at hP ⊢
  have hS : va_S A s.heap H [] := by rw [hHe]; exact va_S.rf
  have fl145 := hts (.fieldLink RX7 145 "EchoPaysRentModel" "undoMany" "I") (by decide +kernel)
  have inX7 : ∀ w ∈ wsX70, w ∈ wsX7_count := by decide +kernel
  refine lv_iload_n hx hb dX7_count_0 rfl (lv_at hl 1 rfl) ?_
  refine lv_tableIn (tgt := 101) hx hb dX7_count_1 (by decide) (by decide) rfl (by decide) ?_
  refine lv_aload_n hx hb dX7_count_101 rfl (lv_at hl 0 rfl) ?_
  refine va_get (D := D) (ci := 7) (v := .int (nI uo)) (C := RX7) (T := TX7) (N := 28) hx hb hts inX7 hown hK hP 0 rfl rfl 15 (by decide) fl145 (fun _ h9 => h9) rfl dX7_count_102 ?_
  exact x_iret hx hb hr hlocks dX7_count_105 rfl (post := fun (r : Int32) (_ : Unit) => r = (nI uo)) (w1 := fun (_ : Unit) => [(rr, eMod ad len kp uo tm em pc0)]) () rfl hK hP hD hS

set_option maxRecDepth 100000 in
set_option maxHeartbeats 4000000 in
theorem c_X7_count_8 (l : Launch) (D : va_G) (cI cC : ClassId) (rr : Nat) (ad : Nat → Nat) (len : Nat) (kp : Nat) (uo : Nat) (tm : Nat) (em : Nat) (pc0 : Nat) : mtI l D cI cC yX7_count wsX7_count ({ frames := 0, cells := 0, slots := 0, locals := 0 }) [.ref rr, .int (nI 8)] [(rr, eMod ad len kp uo tm em pc0)] (fun (r : Int32) (_ : Unit) => r = (nI kp)) (fun (_ : Unit) => [(rr, eMod ad len kp uo tm em pc0)]) := by
  refine mtI_of (cc := cX7_count) (maxL := 2) (ret := (some .int)) (by decide) rfl rfl ?_
  intro p e s m below meth c A hx hb hml hr hts hown hlocks hN hA hK hP hD hS ls hl
  have hown : s.vm.findClass RX7 = some m.cls := hown
  have hl : lv_has ls 2 [(0, .ref rr), (1, .int (nI 8))] := hl
  obtain ⟨H, hHe⟩ : ∃ H, H = s.heap := ⟨_, rfl⟩
  rw [← hHe] at hP ⊢
  have hS : va_S A s.heap H [] := by rw [hHe]; exact va_S.rf
  have fl142 := hts (.fieldLink RX7 142 "EchoPaysRentModel" "keptMany" "I") (by decide +kernel)
  have inX7 : ∀ w ∈ wsX70, w ∈ wsX7_count := by decide +kernel
  refine lv_iload_n hx hb dX7_count_0 rfl (lv_at hl 1 rfl) ?_
  refine lv_tableIn (tgt := 106) hx hb dX7_count_1 (by decide) (by decide) rfl (by decide) ?_
  refine lv_aload_n hx hb dX7_count_106 rfl (lv_at hl 0 rfl) ?_
  refine va_get (D := D) (ci := 7) (v := .int (nI kp)) (C := RX7) (T := TX7) (N := 28) hx hb hts inX7 hown hK hP 0 rfl rfl 14 (by decide) fl142 (fun _ h9 => h9) rfl dX7_count_107 ?_
  exact x_iret hx hb hr hlocks dX7_count_110 rfl (post := fun (r : Int32) (_ : Unit) => r = (nI kp)) (w1 := fun (_ : Unit) => [(rr, eMod ad len kp uo tm em pc0)]) () rfl hK hP hD hS

set_option maxRecDepth 100000 in
set_option maxHeartbeats 4000000 in
theorem c_X7_count_9 (l : Launch) (D : va_G) (cI cC : ClassId) (rr : Nat) (ad : Nat → Nat) (len : Nat) (kp : Nat) (uo : Nat) (tm : Nat) (em : Nat) (pc0 : Nat) : mtI l D cI cC yX7_count wsX7_count ({ frames := 0, cells := 0, slots := 0, locals := 0 }) [.ref rr, .int (nI 9)] [(rr, eMod ad len kp uo tm em pc0)] (fun (r : Int32) (_ : Unit) => r = (nI len)) (fun (_ : Unit) => [(rr, eMod ad len kp uo tm em pc0)]) := by
  refine mtI_of (cc := cX7_count) (maxL := 2) (ret := (some .int)) (by decide) rfl rfl ?_
  intro p e s m below meth c A hx hb hml hr hts hown hlocks hN hA hK hP hD hS ls hl
  have hown : s.vm.findClass RX7 = some m.cls := hown
  have hl : lv_has ls 2 [(0, .ref rr), (1, .int (nI 9))] := hl
  obtain ⟨H, hHe⟩ : ∃ H, H = s.heap := ⟨_, rfl⟩
  rw [← hHe] at hP ⊢
  have hS : va_S A s.heap H [] := by rw [hHe]; exact va_S.rf
  have fl86 := hts (.fieldLink RX7 86 "EchoPaysRentModel" "length" "I") (by decide +kernel)
  have inX7 : ∀ w ∈ wsX70, w ∈ wsX7_count := by decide +kernel
  refine lv_iload_n hx hb dX7_count_0 rfl (lv_at hl 1 rfl) ?_
  refine lv_tableIn (tgt := 111) hx hb dX7_count_1 (by decide) (by decide) rfl (by decide) ?_
  refine lv_aload_n hx hb dX7_count_111 rfl (lv_at hl 0 rfl) ?_
  refine va_get (D := D) (ci := 7) (v := .int (nI len)) (C := RX7) (T := TX7) (N := 28) hx hb hts inX7 hown hK hP 0 rfl rfl 0 (by decide) fl86 (fun _ h9 => h9) rfl dX7_count_112 ?_
  exact x_iret hx hb hr hlocks dX7_count_115 rfl (post := fun (r : Int32) (_ : Unit) => r = (nI len)) (w1 := fun (_ : Unit) => [(rr, eMod ad len kp uo tm em pc0)]) () rfl hK hP hD hS

set_option maxRecDepth 100000 in
set_option maxHeartbeats 4000000 in
theorem c_X7_talk_bad (l : Launch) (D : va_G) (cI cC : ClassId) (rr : Nat) (ad : Nat → Nat) (len : Nat) (kp : Nat) (uo : Nat) (tm : Nat) (em : Nat) (pc0 : Nat) (z : Int) (hz : -2147483648 ≤ z ∧ z < 2147483648) (hbad : (z < 0 ∨ 3 < z)) : mtI l D cI cC yX7_talk wsX7_talk ({ frames := 1, cells := 0, slots := 0, locals := 25 }) [.ref rr, .int (iI z)] [(rr, eMod ad len kp uo tm em pc0)] (fun (r : Int32) (_ : Unit) => r = (iI (-1))) (fun (_ : Unit) => [(rr, eMod ad len kp uo tm em pc0)]) := by
  refine mtI_of (cc := cX7_talk) (maxL := 2) (ret := (some .int)) (by decide) rfl rfl ?_
  intro p e s m below meth c A hx hb hml hr hts hown hlocks hN hA hK hP hD hS ls hl
  have hown : s.vm.findClass RX7 = some m.cls := hown
  have hl : lv_has ls 2 [(0, .ref rr), (1, .int (iI z))] := hl
  obtain ⟨H, hHe⟩ : ∃ H, H = s.heap := ⟨_, rfl⟩
  rw [← hHe] at hP ⊢
  have hS : va_S A s.heap H [] := by rw [hHe]; exact va_S.rf
  refine lv_iload_n hx hb dX7_talk_0 rfl (lv_at hl 1 rfl) ?_
  refine z_i2l hx hb dX7_talk_1 (by omega) ?_
  refine lv_lconst (v := lN 0) hx hb dX7_talk_2 rfl ?_
  refine lv_ldc2 (v := lN 3) hx hb hown (hts (.constantLong RX7 184 3) (by decide +kernel)) dX7_talk_3 ?_
  refine k_S (As := [.long (lI z), .long (lI (((0 : Nat) : Int))), .long (lI (((3 : Nat) : Int)))]) (wr := [(rr, eMod ad len kp uo tm em pc0)]) ⟨hx, hb, hml, hown, hts⟩ (c_X7_in l D cI cC z (((0 : Nat) : Int)) (((3 : Nat) : Int)) (by omega) (by omega) (by omega)) (cwS 3 hts gX7_talk_X7_in rfl rfl rfl (by decide +kernel) ⟨Nat.le_of_ble_eq_true rfl, Nat.le_of_ble_eq_true rfl⟩) rfl hl.1 (by simp only [nI_iI, lN_lI]; rfl) (Nat.le_of_ble_eq_true rfl) dX7_talk_6 ⟨Nat.zero_le _, Nat.zero_le _⟩ hN hK hP hD hS hA [] [0] rfl rfl ⟨rfl, rfl, by decide⟩ (fun r1 u H locs w2 hP hD hS => ?_)
  obtain ⟨rfl, h3, h4⟩ | ⟨rfl, h5⟩ : (r1 = (nI 1) ∧ (((0 : Nat) : Int)) ≤ z ∧ z ≤ (((3 : Nat) : Int))) ∨ (r1 = (nI 0) ∧ (z < (((0 : Nat) : Int)) ∨ (((3 : Nat) : Int)) < z)) := w2
  · refine x_if_ne (tgt := 14) hx hb dX7_talk_9 (by decide) (by omega) (fun h6 => ?_) (fun h6 => False.elim (by omega))
    exact False.elim (by omega)
  · refine x_if_ne (tgt := 14) hx hb dX7_talk_9 (by decide) (by omega) (fun h7 => False.elim (by omega)) (fun h7 => ?_)
    refine lv_iconst (v := (iI (-1))) hx hb dX7_talk_12 (by decide) ?_
    exact x_iret hx hb hr hlocks dX7_talk_13 rfl (post := fun (r : Int32) (_ : Unit) => r = (iI (-1))) (w1 := fun (_ : Unit) => [(rr, eMod ad len kp uo tm em pc0)]) () rfl hK hP hD hS

set_option maxRecDepth 100000 in
set_option maxHeartbeats 4000000 in
theorem c_X7_ear_bad (l : Launch) (D : va_G) (cI cC : ClassId) (rr : Nat) (ad : Nat → Nat) (len : Nat) (kp : Nat) (uo : Nat) (tm : Nat) (em : Nat) (pc0 : Nat) (z : Int) (z2 : Int) (z3 : Int) (hz : -2147483648 ≤ z ∧ z < 2147483648) (hz2 : -2147483648 ≤ z2 ∧ z2 < 2147483648) (hz3 : -2147483648 ≤ z3 ∧ z3 < 2147483648) (hbad : (z < 0 ∨ 40 < z) ∨ (z2 < 0 ∨ 149 < z2) ∨ (z3 < 0 ∨ 8 < z3)) : mtI l D cI cC yX7_ear wsX7_ear ({ frames := 2, cells := 0, slots := 0, locals := 45 }) [.ref rr, .int (iI z), .int (iI z2), .int (iI z3)] [(rr, eMod ad len kp uo tm em pc0)] (fun (r : Int32) (_ : Unit) => r = (iI (-1))) (fun (_ : Unit) => [(rr, eMod ad len kp uo tm em pc0)]) := by
  refine mtI_of (cc := cX7_ear) (maxL := 4) (ret := (some .int)) (by decide) rfl rfl ?_
  intro p e s m below meth c A hx hb hml hr hts hown hlocks hN hA hK hP hD hS ls hl
  have hown : s.vm.findClass RX7 = some m.cls := hown
  have hl : lv_has ls 4 [(0, .ref rr), (1, .int (iI z)), (2, .int (iI z2)), (3, .int (iI z3))] := hl
  obtain ⟨H, hHe⟩ : ∃ H, H = s.heap := ⟨_, rfl⟩
  rw [← hHe] at hP ⊢
  have hS : va_S A s.heap H [] := by rw [hHe]; exact va_S.rf
  refine lv_iload_n hx hb dX7_ear_0 rfl (lv_at hl 1 rfl) ?_
  refine k_S (As := [.int (iI z)]) (wr := [(rr, eMod ad len kp uo tm em pc0)]) ⟨hx, hb, hml, hown, hts⟩ (c_X7_isYard l D cI cC z (by omega)) (cwS 1 hts gX7_ear_X7_isYard rfl rfl rfl (by decide +kernel) ⟨Nat.le_of_ble_eq_true rfl, Nat.le_of_ble_eq_true rfl⟩) rfl hl.1 rfl (Nat.le_of_ble_eq_true rfl) dX7_ear_1 ⟨Nat.zero_le _, Nat.zero_le _⟩ hN hK hP hD hS hA [] [0] rfl rfl ⟨rfl, rfl, by decide⟩ (fun r1 u H locs w2 hP hD hS => ?_)
  obtain ⟨rfl, h3, h4⟩ | ⟨rfl, h5⟩ : (r1 = (nI 1) ∧ 0 ≤ z ∧ z ≤ 40) ∨ (r1 = (nI 0) ∧ (z < 0 ∨ 40 < z)) := w2
  · refine x_if_eq (tgt := 31) hx hb dX7_ear_4 (by decide) (by omega) (fun h6 => False.elim (by omega)) (fun h6 => ?_)
    refine lv_iload_n hx hb dX7_ear_7 rfl (lv_at hl 2 rfl) ?_
    refine z_i2l hx hb dX7_ear_8 (by omega) ?_
    refine lv_lconst (v := lN 0) hx hb dX7_ear_9 rfl ?_
    refine lv_ldc2 (v := lN 149) hx hb hown (hts (.constantLong RX7 189 149) (by decide +kernel)) dX7_ear_10 ?_
    refine k_S (As := [.long (lI z2), .long (lI (((0 : Nat) : Int))), .long (lI (((149 : Nat) : Int)))]) (wr := [(rr, eMod ad len kp uo tm em pc0)]) ⟨hx, hb, hml, hown, hts⟩ (c_X7_in l D cI cC z2 (((0 : Nat) : Int)) (((149 : Nat) : Int)) (by omega) (by omega) (by omega)) (cwS 3 hts gX7_ear_X7_in rfl rfl rfl (by decide +kernel) ⟨Nat.le_of_ble_eq_true rfl, Nat.le_of_ble_eq_true rfl⟩) rfl hl.1 (by simp only [nI_iI, lN_lI]; rfl) (Nat.le_of_ble_eq_true rfl) dX7_ear_13 ⟨Nat.zero_le _, Nat.zero_le _⟩ hN hK hP hD hS hA [] [0] rfl rfl ⟨rfl, rfl, by decide⟩ (fun r7 u H locs w8 hP hD hS => ?_)
    obtain ⟨rfl, h9, h10⟩ | ⟨rfl, h11⟩ : (r7 = (nI 1) ∧ (((0 : Nat) : Int)) ≤ z2 ∧ z2 ≤ (((149 : Nat) : Int))) ∨ (r7 = (nI 0) ∧ (z2 < (((0 : Nat) : Int)) ∨ (((149 : Nat) : Int)) < z2)) := w8
    · refine x_if_eq (tgt := 31) hx hb dX7_ear_16 (by decide) (by omega) (fun h12 => False.elim (by omega)) (fun h12 => ?_)
      refine lv_iload_n hx hb dX7_ear_19 rfl (lv_at hl 3 rfl) ?_
      refine z_i2l hx hb dX7_ear_20 (by omega) ?_
      refine lv_lconst (v := lN 0) hx hb dX7_ear_21 rfl ?_
      refine lv_ldc2 (v := lN 8) hx hb hown (hts (.constantLong RX7 80 8) (by decide +kernel)) dX7_ear_22 ?_
      refine k_S (As := [.long (lI z3), .long (lI (((0 : Nat) : Int))), .long (lI (((8 : Nat) : Int)))]) (wr := [(rr, eMod ad len kp uo tm em pc0)]) ⟨hx, hb, hml, hown, hts⟩ (c_X7_in l D cI cC z3 (((0 : Nat) : Int)) (((8 : Nat) : Int)) (by omega) (by omega) (by omega)) (cwS 3 hts gX7_ear_X7_in rfl rfl rfl (by decide +kernel) ⟨Nat.le_of_ble_eq_true rfl, Nat.le_of_ble_eq_true rfl⟩) rfl hl.1 (by simp only [nI_iI, lN_lI]; rfl) (Nat.le_of_ble_eq_true rfl) dX7_ear_25 ⟨Nat.zero_le _, Nat.zero_le _⟩ hN hK hP hD hS hA [] [0] rfl rfl ⟨rfl, rfl, by decide⟩ (fun r13 u H locs w14 hP hD hS => ?_)
      obtain ⟨rfl, h15, h16⟩ | ⟨rfl, h17⟩ : (r13 = (nI 1) ∧ (((0 : Nat) : Int)) ≤ z3 ∧ z3 ≤ (((8 : Nat) : Int))) ∨ (r13 = (nI 0) ∧ (z3 < (((0 : Nat) : Int)) ∨ (((8 : Nat) : Int)) < z3)) := w14
      · refine x_if_ne (tgt := 33) hx hb dX7_ear_28 (by decide) (by omega) (fun h18 => ?_) (fun h18 => False.elim (by omega))
        exact False.elim (by omega)
      · refine x_if_ne (tgt := 33) hx hb dX7_ear_28 (by decide) (by omega) (fun h19 => False.elim (by omega)) (fun h19 => ?_)
        refine lv_iconst (v := (iI (-1))) hx hb dX7_ear_31 (by decide) ?_
        exact x_iret hx hb hr hlocks dX7_ear_32 rfl (post := fun (r : Int32) (_ : Unit) => r = (iI (-1))) (w1 := fun (_ : Unit) => [(rr, eMod ad len kp uo tm em pc0)]) () rfl hK hP hD hS
    · refine x_if_eq (tgt := 31) hx hb dX7_ear_16 (by decide) (by omega) (fun h20 => ?_) (fun h20 => False.elim (by omega))
      refine lv_iconst (v := (iI (-1))) hx hb dX7_ear_31 (by decide) ?_
      exact x_iret hx hb hr hlocks dX7_ear_32 rfl (post := fun (r : Int32) (_ : Unit) => r = (iI (-1))) (w1 := fun (_ : Unit) => [(rr, eMod ad len kp uo tm em pc0)]) () rfl hK hP hD hS
  · refine x_if_eq (tgt := 31) hx hb dX7_ear_4 (by decide) (by omega) (fun h21 => ?_) (fun h21 => False.elim (by omega))
    refine lv_iconst (v := (iI (-1))) hx hb dX7_ear_31 (by decide) ?_
    exact x_iret hx hb hr hlocks dX7_ear_32 rfl (post := fun (r : Int32) (_ : Unit) => r = (iI (-1))) (w1 := fun (_ : Unit) => [(rr, eMod ad len kp uo tm em pc0)]) () rfl hK hP hD hS

set_option maxRecDepth 100000 in
set_option maxHeartbeats 4000000 in
theorem c_X7_heard_bad (l : Launch) (D : va_G) (cI cC : ClassId) (rr : Nat) (ad : Nat → Nat) (len : Nat) (kp : Nat) (uo : Nat) (tm : Nat) (em : Nat) (pc0 : Nat) (z : Int) (z2 : Int) (hz : -2147483648 ≤ z ∧ z < 2147483648) (hz2 : -2147483648 ≤ z2 ∧ z2 < 2147483648) (hbad : (z < 0 ∨ 40 < z) ∨ (z2 < 0 ∨ 149 < z2)) : mtI l D cI cC yX7_heard wsX7_heard ({ frames := 2, cells := 0, slots := 0, locals := 45 }) [.ref rr, .int (iI z), .int (iI z2)] [(rr, eMod ad len kp uo tm em pc0)] (fun (r : Int32) (_ : Unit) => r = (iI (-1))) (fun (_ : Unit) => [(rr, eMod ad len kp uo tm em pc0)]) := by
  refine mtI_of (cc := cX7_heard) (maxL := 3) (ret := (some .int)) (by decide) rfl rfl ?_
  intro p e s m below meth c A hx hb hml hr hts hown hlocks hN hA hK hP hD hS ls hl
  have hown : s.vm.findClass RX7 = some m.cls := hown
  have hl : lv_has ls 3 [(0, .ref rr), (1, .int (iI z)), (2, .int (iI z2))] := hl
  obtain ⟨H, hHe⟩ : ∃ H, H = s.heap := ⟨_, rfl⟩
  rw [← hHe] at hP ⊢
  have hS : va_S A s.heap H [] := by rw [hHe]; exact va_S.rf
  refine lv_iload_n hx hb dX7_heard_0 rfl (lv_at hl 1 rfl) ?_
  refine k_S (As := [.int (iI z)]) (wr := [(rr, eMod ad len kp uo tm em pc0)]) ⟨hx, hb, hml, hown, hts⟩ (c_X7_isYard l D cI cC z (by omega)) (cwS 1 hts gX7_heard_X7_isYard rfl rfl rfl (by decide +kernel) ⟨Nat.le_of_ble_eq_true rfl, Nat.le_of_ble_eq_true rfl⟩) rfl hl.1 rfl (Nat.le_of_ble_eq_true rfl) dX7_heard_1 ⟨Nat.zero_le _, Nat.zero_le _⟩ hN hK hP hD hS hA [] [0] rfl rfl ⟨rfl, rfl, by decide⟩ (fun r1 u H locs w2 hP hD hS => ?_)
  obtain ⟨rfl, h3, h4⟩ | ⟨rfl, h5⟩ : (r1 = (nI 1) ∧ 0 ≤ z ∧ z ≤ 40) ∨ (r1 = (nI 0) ∧ (z < 0 ∨ 40 < z)) := w2
  · refine x_if_eq (tgt := 19) hx hb dX7_heard_4 (by decide) (by omega) (fun h6 => False.elim (by omega)) (fun h6 => ?_)
    refine lv_iload_n hx hb dX7_heard_7 rfl (lv_at hl 2 rfl) ?_
    refine z_i2l hx hb dX7_heard_8 (by omega) ?_
    refine lv_lconst (v := lN 0) hx hb dX7_heard_9 rfl ?_
    refine lv_ldc2 (v := lN 149) hx hb hown (hts (.constantLong RX7 189 149) (by decide +kernel)) dX7_heard_10 ?_
    refine k_S (As := [.long (lI z2), .long (lI (((0 : Nat) : Int))), .long (lI (((149 : Nat) : Int)))]) (wr := [(rr, eMod ad len kp uo tm em pc0)]) ⟨hx, hb, hml, hown, hts⟩ (c_X7_in l D cI cC z2 (((0 : Nat) : Int)) (((149 : Nat) : Int)) (by omega) (by omega) (by omega)) (cwS 3 hts gX7_heard_X7_in rfl rfl rfl (by decide +kernel) ⟨Nat.le_of_ble_eq_true rfl, Nat.le_of_ble_eq_true rfl⟩) rfl hl.1 (by simp only [nI_iI, lN_lI]; rfl) (Nat.le_of_ble_eq_true rfl) dX7_heard_13 ⟨Nat.zero_le _, Nat.zero_le _⟩ hN hK hP hD hS hA [] [0] rfl rfl ⟨rfl, rfl, by decide⟩ (fun r7 u H locs w8 hP hD hS => ?_)
    obtain ⟨rfl, h9, h10⟩ | ⟨rfl, h11⟩ : (r7 = (nI 1) ∧ (((0 : Nat) : Int)) ≤ z2 ∧ z2 ≤ (((149 : Nat) : Int))) ∨ (r7 = (nI 0) ∧ (z2 < (((0 : Nat) : Int)) ∨ (((149 : Nat) : Int)) < z2)) := w8
    · refine x_if_ne (tgt := 21) hx hb dX7_heard_16 (by decide) (by omega) (fun h12 => ?_) (fun h12 => False.elim (by omega))
      exact False.elim (by omega)
    · refine x_if_ne (tgt := 21) hx hb dX7_heard_16 (by decide) (by omega) (fun h13 => False.elim (by omega)) (fun h13 => ?_)
      refine lv_iconst (v := (iI (-1))) hx hb dX7_heard_19 (by decide) ?_
      exact x_iret hx hb hr hlocks dX7_heard_20 rfl (post := fun (r : Int32) (_ : Unit) => r = (iI (-1))) (w1 := fun (_ : Unit) => [(rr, eMod ad len kp uo tm em pc0)]) () rfl hK hP hD hS
  · refine x_if_eq (tgt := 19) hx hb dX7_heard_4 (by decide) (by omega) (fun h14 => ?_) (fun h14 => False.elim (by omega))
    refine lv_iconst (v := (iI (-1))) hx hb dX7_heard_19 (by decide) ?_
    exact x_iret hx hb hr hlocks dX7_heard_20 rfl (post := fun (r : Int32) (_ : Unit) => r = (iI (-1))) (w1 := fun (_ : Unit) => [(rr, eMod ad len kp uo tm em pc0)]) () rfl hK hP hD hS

set_option maxRecDepth 100000 in
set_option maxHeartbeats 4000000 in
theorem c_X7_face_bad (l : Launch) (D : va_G) (cI cC : ClassId) (rr : Nat) (ad : Nat → Nat) (len : Nat) (kp : Nat) (uo : Nat) (tm : Nat) (em : Nat) (pc0 : Nat) (z : Int) (z2 : Int) (hz : -2147483648 ≤ z ∧ z < 2147483648) (hz2 : -2147483648 ≤ z2 ∧ z2 < 2147483648) (fm : Nat → Nat) (hf4 : fm 0 ≤ 4) (hbad : (z < 0 ∨ (fm 0 : Int) ≤ z) ∨ (z2 < 0 ∨ 3 < z2)) : mtI l D cI cC yX7_face wsX7_face ({ frames := 1, cells := 0, slots := 0, locals := 25 }) [.ref rr, .int (iI z), .int (iI z2)] [(rr, eMod ad len kp uo tm em pc0), (ad 2, eArr cI 2 fm)] (fun (r : Int32) (_ : Unit) => r = (iI (-1))) (fun (_ : Unit) => [(rr, eMod ad len kp uo tm em pc0), (ad 2, eArr cI 2 fm)]) := by
  refine mtI_of (cc := cX7_face) (maxL := 3) (ret := (some .int)) (by decide) rfl rfl ?_
  intro p e s m below meth c A hx hb hml hr hts hown hlocks hN hA hK hP hD hS ls hl
  have hown : s.vm.findClass RX7 = some m.cls := hown
  have hl : lv_has ls 3 [(0, .ref rr), (1, .int (iI z)), (2, .int (iI z2))] := hl
  obtain ⟨H, hHe⟩ : ∃ H, H = s.heap := ⟨_, rfl⟩
  rw [← hHe] at hP ⊢
  have hS : va_S A s.heap H [] := by rw [hHe]; exact va_S.rf
  have fl13 := hts (.fieldLink RX7 13 "EchoPaysRentModel" "faceMany" "[I") (by decide +kernel)
  have inX7 : ∀ w ∈ wsX70, w ∈ wsX7_face := by decide +kernel
  refine lv_iload_n hx hb dX7_face_0 rfl (lv_at hl 1 rfl) ?_
  refine z_i2l hx hb dX7_face_1 (by omega) ?_
  refine lv_lconst (v := lN 0) hx hb dX7_face_2 rfl ?_
  refine lv_aload_n hx hb dX7_face_3 rfl (lv_at hl 0 rfl) ?_
  refine va_get (D := D) (ci := 7) (v := .ref (ad 2)) (C := RX7) (T := TX7) (N := 28) hx hb hts inX7 hown hK hP 0 rfl rfl 2 (by decide) fl13 (fun _ h9 => h9) rfl dX7_face_4 ?_
  refine lv_iconst (v := (nI 0)) hx hb dX7_face_7 (by decide) ?_
  refine x_iald (A := A) hx hb hK hP 1 0 rfl rfl dX7_face_8 (by omega) (by omega) ?_
  refine lv_iconst (v := (nI 1)) hx hb dX7_face_9 (by decide) ?_
  refine x_isubZ hx hb dX7_face_10 ?_
  refine z_i2l hx hb dX7_face_11 (by omega) ?_
  refine k_S (As := [.long (lI z), .long (lI (((0 : Nat) : Int))), .long (lI (((fm 0 : Nat) : Int) - ((1 : Nat) : Int)))]) (wr := [(rr, eMod ad len kp uo tm em pc0), (ad 2, eArr cI 2 fm)]) ⟨hx, hb, hml, hown, hts⟩ (c_X7_in l D cI cC z (((0 : Nat) : Int)) (((fm 0 : Nat) : Int) - ((1 : Nat) : Int)) (by omega) (by omega) (by omega)) (cwS 3 hts gX7_face_X7_in rfl rfl rfl (by decide +kernel) ⟨Nat.le_of_ble_eq_true rfl, Nat.le_of_ble_eq_true rfl⟩) rfl hl.1 (by simp only [nI_iI, lN_lI]; rfl) (Nat.le_of_ble_eq_true rfl) dX7_face_12 ⟨Nat.zero_le _, Nat.zero_le _⟩ hN hK hP hD hS hA [] [0, 1] rfl rfl ⟨rfl, rfl, by decide⟩ (fun r1 u H locs w2 hP hD hS => ?_)
  obtain ⟨rfl, h3, h4⟩ | ⟨rfl, h5⟩ : (r1 = (nI 1) ∧ (((0 : Nat) : Int)) ≤ z ∧ z ≤ (((fm 0 : Nat) : Int) - ((1 : Nat) : Int))) ∨ (r1 = (nI 0) ∧ (z < (((0 : Nat) : Int)) ∨ (((fm 0 : Nat) : Int) - ((1 : Nat) : Int)) < z)) := w2
  · refine x_if_eq (tgt := 30) hx hb dX7_face_15 (by decide) (by omega) (fun h6 => False.elim (by omega)) (fun h6 => ?_)
    refine lv_iload_n hx hb dX7_face_18 rfl (lv_at hl 2 rfl) ?_
    refine z_i2l hx hb dX7_face_19 (by omega) ?_
    refine lv_lconst (v := lN 0) hx hb dX7_face_20 rfl ?_
    refine lv_ldc2 (v := lN 3) hx hb hown (hts (.constantLong RX7 184 3) (by decide +kernel)) dX7_face_21 ?_
    refine k_S (As := [.long (lI z2), .long (lI (((0 : Nat) : Int))), .long (lI (((3 : Nat) : Int)))]) (wr := [(rr, eMod ad len kp uo tm em pc0), (ad 2, eArr cI 2 fm)]) ⟨hx, hb, hml, hown, hts⟩ (c_X7_in l D cI cC z2 (((0 : Nat) : Int)) (((3 : Nat) : Int)) (by omega) (by omega) (by omega)) (cwS 3 hts gX7_face_X7_in rfl rfl rfl (by decide +kernel) ⟨Nat.le_of_ble_eq_true rfl, Nat.le_of_ble_eq_true rfl⟩) rfl hl.1 (by simp only [nI_iI, lN_lI]; rfl) (Nat.le_of_ble_eq_true rfl) dX7_face_24 ⟨Nat.zero_le _, Nat.zero_le _⟩ hN hK hP hD hS hA [] [0, 1] rfl rfl ⟨rfl, rfl, by decide⟩ (fun r7 u H locs w8 hP hD hS => ?_)
    obtain ⟨rfl, h9, h10⟩ | ⟨rfl, h11⟩ : (r7 = (nI 1) ∧ (((0 : Nat) : Int)) ≤ z2 ∧ z2 ≤ (((3 : Nat) : Int))) ∨ (r7 = (nI 0) ∧ (z2 < (((0 : Nat) : Int)) ∨ (((3 : Nat) : Int)) < z2)) := w8
    · refine x_if_ne (tgt := 32) hx hb dX7_face_27 (by decide) (by omega) (fun h12 => ?_) (fun h12 => False.elim (by omega))
      exact False.elim (by omega)
    · refine x_if_ne (tgt := 32) hx hb dX7_face_27 (by decide) (by omega) (fun h13 => False.elim (by omega)) (fun h13 => ?_)
      refine lv_iconst (v := (iI (-1))) hx hb dX7_face_30 (by decide) ?_
      exact x_iret hx hb hr hlocks dX7_face_31 rfl (post := fun (r : Int32) (_ : Unit) => r = (iI (-1))) (w1 := fun (_ : Unit) => [(rr, eMod ad len kp uo tm em pc0), (ad 2, eArr cI 2 fm)]) () rfl hK hP hD hS
  · refine x_if_eq (tgt := 30) hx hb dX7_face_15 (by decide) (by omega) (fun h14 => ?_) (fun h14 => False.elim (by omega))
    refine lv_iconst (v := (iI (-1))) hx hb dX7_face_30 (by decide) ?_
    exact x_iret hx hb hr hlocks dX7_face_31 rfl (post := fun (r : Int32) (_ : Unit) => r = (iI (-1))) (w1 := fun (_ : Unit) => [(rr, eMod ad len kp uo tm em pc0), (ad 2, eArr cI 2 fm)]) () rfl hK hP hD hS

set_option maxRecDepth 100000 in
set_option maxHeartbeats 4000000 in
theorem c_X7_word_bad (l : Launch) (D : va_G) (cI cC : ClassId) (rr : Nat) (ad : Nat → Nat) (len : Nat) (kp : Nat) (uo : Nat) (tm : Nat) (em : Nat) (pc0 : Nat) (z : Int) (z2 : Int) (hz : -2147483648 ≤ z ∧ z < 2147483648) (hz2 : -2147483648 ≤ z2 ∧ z2 < 2147483648) (wma : Nat → Nat) (hf4 : wma 0 ≤ 8) (hbad : (z < 0 ∨ (wma 0 : Int) ≤ z) ∨ (z2 < 0 ∨ 3 < z2)) : mtI l D cI cC yX7_word wsX7_word ({ frames := 1, cells := 0, slots := 0, locals := 25 }) [.ref rr, .int (iI z), .int (iI z2)] [(rr, eMod ad len kp uo tm em pc0), (ad 7, eArr cI 4 wma)] (fun (r : Int32) (_ : Unit) => r = (iI (-1))) (fun (_ : Unit) => [(rr, eMod ad len kp uo tm em pc0), (ad 7, eArr cI 4 wma)]) := by
  refine mtI_of (cc := cX7_word) (maxL := 3) (ret := (some .int)) (by decide) rfl rfl ?_
  intro p e s m below meth c A hx hb hml hr hts hown hlocks hN hA hK hP hD hS ls hl
  have hown : s.vm.findClass RX7 = some m.cls := hown
  have hl : lv_has ls 3 [(0, .ref rr), (1, .int (iI z)), (2, .int (iI z2))] := hl
  obtain ⟨H, hHe⟩ : ∃ H, H = s.heap := ⟨_, rfl⟩
  rw [← hHe] at hP ⊢
  have hS : va_S A s.heap H [] := by rw [hHe]; exact va_S.rf
  have fl28 := hts (.fieldLink RX7 28 "EchoPaysRentModel" "wordMany" "[I") (by decide +kernel)
  have inX7 : ∀ w ∈ wsX70, w ∈ wsX7_word := by decide +kernel
  refine lv_iload_n hx hb dX7_word_0 rfl (lv_at hl 1 rfl) ?_
  refine z_i2l hx hb dX7_word_1 (by omega) ?_
  refine lv_lconst (v := lN 0) hx hb dX7_word_2 rfl ?_
  refine lv_aload_n hx hb dX7_word_3 rfl (lv_at hl 0 rfl) ?_
  refine va_get (D := D) (ci := 7) (v := .ref (ad 7)) (C := RX7) (T := TX7) (N := 28) hx hb hts inX7 hown hK hP 0 rfl rfl 7 (by decide) fl28 (fun _ h9 => h9) rfl dX7_word_4 ?_
  refine lv_iconst (v := (nI 0)) hx hb dX7_word_7 (by decide) ?_
  refine x_iald (A := A) hx hb hK hP 1 0 rfl rfl dX7_word_8 (by omega) (by omega) ?_
  refine lv_iconst (v := (nI 1)) hx hb dX7_word_9 (by decide) ?_
  refine x_isubZ hx hb dX7_word_10 ?_
  refine z_i2l hx hb dX7_word_11 (by omega) ?_
  refine k_S (As := [.long (lI z), .long (lI (((0 : Nat) : Int))), .long (lI (((wma 0 : Nat) : Int) - ((1 : Nat) : Int)))]) (wr := [(rr, eMod ad len kp uo tm em pc0), (ad 7, eArr cI 4 wma)]) ⟨hx, hb, hml, hown, hts⟩ (c_X7_in l D cI cC z (((0 : Nat) : Int)) (((wma 0 : Nat) : Int) - ((1 : Nat) : Int)) (by omega) (by omega) (by omega)) (cwS 3 hts gX7_word_X7_in rfl rfl rfl (by decide +kernel) ⟨Nat.le_of_ble_eq_true rfl, Nat.le_of_ble_eq_true rfl⟩) rfl hl.1 (by simp only [nI_iI, lN_lI]; rfl) (Nat.le_of_ble_eq_true rfl) dX7_word_12 ⟨Nat.zero_le _, Nat.zero_le _⟩ hN hK hP hD hS hA [] [0, 1] rfl rfl ⟨rfl, rfl, by decide⟩ (fun r1 u H locs w2 hP hD hS => ?_)
  obtain ⟨rfl, h3, h4⟩ | ⟨rfl, h5⟩ : (r1 = (nI 1) ∧ (((0 : Nat) : Int)) ≤ z ∧ z ≤ (((wma 0 : Nat) : Int) - ((1 : Nat) : Int))) ∨ (r1 = (nI 0) ∧ (z < (((0 : Nat) : Int)) ∨ (((wma 0 : Nat) : Int) - ((1 : Nat) : Int)) < z)) := w2
  · refine x_if_eq (tgt := 30) hx hb dX7_word_15 (by decide) (by omega) (fun h6 => False.elim (by omega)) (fun h6 => ?_)
    refine lv_iload_n hx hb dX7_word_18 rfl (lv_at hl 2 rfl) ?_
    refine z_i2l hx hb dX7_word_19 (by omega) ?_
    refine lv_lconst (v := lN 0) hx hb dX7_word_20 rfl ?_
    refine lv_ldc2 (v := lN 3) hx hb hown (hts (.constantLong RX7 184 3) (by decide +kernel)) dX7_word_21 ?_
    refine k_S (As := [.long (lI z2), .long (lI (((0 : Nat) : Int))), .long (lI (((3 : Nat) : Int)))]) (wr := [(rr, eMod ad len kp uo tm em pc0), (ad 7, eArr cI 4 wma)]) ⟨hx, hb, hml, hown, hts⟩ (c_X7_in l D cI cC z2 (((0 : Nat) : Int)) (((3 : Nat) : Int)) (by omega) (by omega) (by omega)) (cwS 3 hts gX7_word_X7_in rfl rfl rfl (by decide +kernel) ⟨Nat.le_of_ble_eq_true rfl, Nat.le_of_ble_eq_true rfl⟩) rfl hl.1 (by simp only [nI_iI, lN_lI]; rfl) (Nat.le_of_ble_eq_true rfl) dX7_word_24 ⟨Nat.zero_le _, Nat.zero_le _⟩ hN hK hP hD hS hA [] [0, 1] rfl rfl ⟨rfl, rfl, by decide⟩ (fun r7 u H locs w8 hP hD hS => ?_)
    obtain ⟨rfl, h9, h10⟩ | ⟨rfl, h11⟩ : (r7 = (nI 1) ∧ (((0 : Nat) : Int)) ≤ z2 ∧ z2 ≤ (((3 : Nat) : Int))) ∨ (r7 = (nI 0) ∧ (z2 < (((0 : Nat) : Int)) ∨ (((3 : Nat) : Int)) < z2)) := w8
    · refine x_if_ne (tgt := 32) hx hb dX7_word_27 (by decide) (by omega) (fun h12 => ?_) (fun h12 => False.elim (by omega))
      exact False.elim (by omega)
    · refine x_if_ne (tgt := 32) hx hb dX7_word_27 (by decide) (by omega) (fun h13 => False.elim (by omega)) (fun h13 => ?_)
      refine lv_iconst (v := (iI (-1))) hx hb dX7_word_30 (by decide) ?_
      exact x_iret hx hb hr hlocks dX7_word_31 rfl (post := fun (r : Int32) (_ : Unit) => r = (iI (-1))) (w1 := fun (_ : Unit) => [(rr, eMod ad len kp uo tm em pc0), (ad 7, eArr cI 4 wma)]) () rfl hK hP hD hS
  · refine x_if_eq (tgt := 30) hx hb dX7_word_15 (by decide) (by omega) (fun h14 => ?_) (fun h14 => False.elim (by omega))
    refine lv_iconst (v := (iI (-1))) hx hb dX7_word_30 (by decide) ?_
    exact x_iret hx hb hr hlocks dX7_word_31 rfl (post := fun (r : Int32) (_ : Unit) => r = (iI (-1))) (w1 := fun (_ : Unit) => [(rr, eMod ad len kp uo tm em pc0), (ad 7, eArr cI 4 wma)]) () rfl hK hP hD hS

set_option maxRecDepth 100000 in
set_option maxHeartbeats 4000000 in
theorem c_X7_face_0 (l : Launch) (D : va_G) (cI cC : ClassId) (rr : Nat) (ad : Nat → Nat) (len : Nat) (kp : Nat) (uo : Nat) (tm : Nat) (em : Nat) (pc0 : Nat) (fm : Nat → Nat) (pq : Nat → Nat) (dq : Nat → Nat) (kq : Nat → Nat) (ai : Nat → Nat) (sna : Nat → Nat) (f : Nat) (hff : f < fm 0 ∧ fm 0 ≤ 4) : mtI l D cI cC yX7_face wsX7_face ({ frames := 1, cells := 0, slots := 0, locals := 25 }) [.ref rr, .int (nI f), .int (nI 0)] [(rr, eMod ad len kp uo tm em pc0), (ad 2, eArr cI 2 fm), (ad 3, eArr cI 8 pq), (ad 4, eArr cI 8 dq), (ad 5, eArr cI 8 kq), (ad 6, eArr cI 2 ai), (ad 13, eArr cI 4 sna)] (fun (r : Int32) (_ : Unit) => r = (nI (pq f))) (fun (_ : Unit) => [(rr, eMod ad len kp uo tm em pc0), (ad 2, eArr cI 2 fm), (ad 3, eArr cI 8 pq), (ad 4, eArr cI 8 dq), (ad 5, eArr cI 8 kq), (ad 6, eArr cI 2 ai), (ad 13, eArr cI 4 sna)]) := by
  refine mtI_of (cc := cX7_face) (maxL := 3) (ret := (some .int)) (by decide) rfl rfl ?_
  intro p e s m below meth c A hx hb hml hr hts hown hlocks hN hA hK hP hD hS ls hl
  have hown : s.vm.findClass RX7 = some m.cls := hown
  have hl : lv_has ls 3 [(0, .ref rr), (1, .int (nI f)), (2, .int (nI 0))] := hl
  obtain ⟨H, hHe⟩ : ∃ H, H = s.heap := ⟨_, rfl⟩
  rw [← hHe] at hP ⊢
  have hS : va_S A s.heap H [] := by rw [hHe]; exact va_S.rf
  have fl13 := hts (.fieldLink RX7 13 "EchoPaysRentModel" "faceMany" "[I") (by decide +kernel)
  have inX7 : ∀ w ∈ wsX70, w ∈ wsX7_face := by decide +kernel
  have fl16 := hts (.fieldLink RX7 16 "EchoPaysRentModel" "places" "[I") (by decide +kernel)
  refine lv_iload_n hx hb dX7_face_0 rfl (lv_at hl 1 rfl) ?_
  refine n_i2l hx hb dX7_face_1 (by omega) ?_
  refine lv_lconst (v := lN 0) hx hb dX7_face_2 rfl ?_
  refine lv_aload_n hx hb dX7_face_3 rfl (lv_at hl 0 rfl) ?_
  refine va_get (D := D) (ci := 7) (v := .ref (ad 2)) (C := RX7) (T := TX7) (N := 28) hx hb hts inX7 hown hK hP 0 rfl rfl 2 (by decide) fl13 (fun _ h9 => h9) rfl dX7_face_4 ?_
  refine lv_iconst (v := (nI 0)) hx hb dX7_face_7 (by decide) ?_
  refine x_iald (A := A) hx hb hK hP 1 0 rfl rfl dX7_face_8 (by omega) (by omega) ?_
  refine lv_iconst (v := (nI 1)) hx hb dX7_face_9 (by decide) ?_
  refine x_isub hx hb dX7_face_10 (by omega) ?_
  refine n_i2l hx hb dX7_face_11 (by omega) ?_
  refine k_S (As := [.long (lI (((f : Nat) : Int))), .long (lI (((0 : Nat) : Int))), .long (lI (((fm 0 - 1 : Nat) : Int)))]) (wr := [(rr, eMod ad len kp uo tm em pc0), (ad 2, eArr cI 2 fm), (ad 3, eArr cI 8 pq), (ad 4, eArr cI 8 dq), (ad 5, eArr cI 8 kq), (ad 6, eArr cI 2 ai), (ad 13, eArr cI 4 sna)]) ⟨hx, hb, hml, hown, hts⟩ (c_X7_in l D cI cC (((f : Nat) : Int)) (((0 : Nat) : Int)) (((fm 0 - 1 : Nat) : Int)) (by omega) (by omega) (by omega)) (cwS 3 hts gX7_face_X7_in rfl rfl rfl (by decide +kernel) ⟨Nat.le_of_ble_eq_true rfl, Nat.le_of_ble_eq_true rfl⟩) rfl hl.1 (by simp only [nI_iI, lN_lI]; rfl) (Nat.le_of_ble_eq_true rfl) dX7_face_12 ⟨Nat.zero_le _, Nat.zero_le _⟩ hN hK hP hD hS hA [] [0, 1, 2, 3, 4, 5, 6] rfl rfl ⟨rfl, rfl, by decide⟩ (fun r1 u H locs w2 hP hD hS => ?_)
  obtain ⟨rfl, h3, h4⟩ | ⟨rfl, h5⟩ : (r1 = (nI 1) ∧ (((0 : Nat) : Int)) ≤ (((f : Nat) : Int)) ∧ (((f : Nat) : Int)) ≤ (((fm 0 - 1 : Nat) : Int))) ∨ (r1 = (nI 0) ∧ ((((f : Nat) : Int)) < (((0 : Nat) : Int)) ∨ (((fm 0 - 1 : Nat) : Int)) < (((f : Nat) : Int)))) := w2
  · refine x_if_eq (tgt := 30) hx hb dX7_face_15 (by decide) (by omega) (fun h6 => False.elim (by omega)) (fun h6 => ?_)
    refine lv_iload_n hx hb dX7_face_18 rfl (lv_at hl 2 rfl) ?_
    refine n_i2l hx hb dX7_face_19 (by omega) ?_
    refine lv_lconst (v := lN 0) hx hb dX7_face_20 rfl ?_
    refine lv_ldc2 (v := lN 3) hx hb hown (hts (.constantLong RX7 184 3) (by decide +kernel)) dX7_face_21 ?_
    refine k_S (As := [.long (lI (((0 : Nat) : Int))), .long (lI (((0 : Nat) : Int))), .long (lI (((3 : Nat) : Int)))]) (wr := [(rr, eMod ad len kp uo tm em pc0), (ad 2, eArr cI 2 fm), (ad 3, eArr cI 8 pq), (ad 4, eArr cI 8 dq), (ad 5, eArr cI 8 kq), (ad 6, eArr cI 2 ai), (ad 13, eArr cI 4 sna)]) ⟨hx, hb, hml, hown, hts⟩ (c_X7_in l D cI cC (((0 : Nat) : Int)) (((0 : Nat) : Int)) (((3 : Nat) : Int)) (by omega) (by omega) (by omega)) (cwS 3 hts gX7_face_X7_in rfl rfl rfl (by decide +kernel) ⟨Nat.le_of_ble_eq_true rfl, Nat.le_of_ble_eq_true rfl⟩) rfl hl.1 (by simp only [nI_iI, lN_lI]; rfl) (Nat.le_of_ble_eq_true rfl) dX7_face_24 ⟨Nat.zero_le _, Nat.zero_le _⟩ hN hK hP hD hS hA [] [0, 1, 2, 3, 4, 5, 6] rfl rfl ⟨rfl, rfl, by decide⟩ (fun r7 u H locs w8 hP hD hS => ?_)
    obtain ⟨rfl, h9, h10⟩ | ⟨rfl, h11⟩ : (r7 = (nI 1) ∧ (((0 : Nat) : Int)) ≤ (((0 : Nat) : Int)) ∧ (((0 : Nat) : Int)) ≤ (((3 : Nat) : Int))) ∨ (r7 = (nI 0) ∧ ((((0 : Nat) : Int)) < (((0 : Nat) : Int)) ∨ (((3 : Nat) : Int)) < (((0 : Nat) : Int)))) := w8
    · refine x_if_ne (tgt := 32) hx hb dX7_face_27 (by decide) (by omega) (fun h12 => ?_) (fun h12 => False.elim (by omega))
      refine lv_iload_n hx hb dX7_face_32 rfl (lv_at hl 2 rfl) ?_
      refine x_if_ne (tgt := 45) hx hb dX7_face_33 (by decide) (by omega) (fun h13 => False.elim (by omega)) (fun h13 => ?_)
      refine lv_aload_n hx hb dX7_face_36 rfl (lv_at hl 0 rfl) ?_
      refine va_get (D := D) (ci := 7) (v := .ref (ad 3)) (C := RX7) (T := TX7) (N := 28) hx hb hts inX7 hown hK hP 0 rfl rfl 3 (by decide) fl16 (fun _ h9 => h9) rfl dX7_face_37 ?_
      refine lv_iload_n hx hb dX7_face_40 rfl (lv_at hl 1 rfl) ?_
      refine x_iald (A := A) hx hb hK hP 2 0 rfl rfl dX7_face_41 (by omega) (by omega) ?_
      refine lv_goto (tgt := 83) hx hb dX7_face_42 (by decide) ?_
      exact x_iret hx hb hr hlocks dX7_face_83 rfl (post := fun (r : Int32) (_ : Unit) => r = (nI (pq f))) (w1 := fun (_ : Unit) => [(rr, eMod ad len kp uo tm em pc0), (ad 2, eArr cI 2 fm), (ad 3, eArr cI 8 pq), (ad 4, eArr cI 8 dq), (ad 5, eArr cI 8 kq), (ad 6, eArr cI 2 ai), (ad 13, eArr cI 4 sna)]) () rfl hK hP hD hS
    · exact False.elim (by omega)
  · exact False.elim (by omega)

set_option maxRecDepth 100000 in
set_option maxHeartbeats 4000000 in
theorem c_X7_face_1 (l : Launch) (D : va_G) (cI cC : ClassId) (rr : Nat) (ad : Nat → Nat) (len : Nat) (kp : Nat) (uo : Nat) (tm : Nat) (em : Nat) (pc0 : Nat) (fm : Nat → Nat) (pq : Nat → Nat) (dq : Nat → Nat) (kq : Nat → Nat) (ai : Nat → Nat) (sna : Nat → Nat) (f : Nat) (hff : f < fm 0 ∧ fm 0 ≤ 4) : mtI l D cI cC yX7_face wsX7_face ({ frames := 1, cells := 0, slots := 0, locals := 25 }) [.ref rr, .int (nI f), .int (nI 1)] [(rr, eMod ad len kp uo tm em pc0), (ad 2, eArr cI 2 fm), (ad 3, eArr cI 8 pq), (ad 4, eArr cI 8 dq), (ad 5, eArr cI 8 kq), (ad 6, eArr cI 2 ai), (ad 13, eArr cI 4 sna)] (fun (r : Int32) (_ : Unit) => r = (nI (dq f))) (fun (_ : Unit) => [(rr, eMod ad len kp uo tm em pc0), (ad 2, eArr cI 2 fm), (ad 3, eArr cI 8 pq), (ad 4, eArr cI 8 dq), (ad 5, eArr cI 8 kq), (ad 6, eArr cI 2 ai), (ad 13, eArr cI 4 sna)]) := by
  refine mtI_of (cc := cX7_face) (maxL := 3) (ret := (some .int)) (by decide) rfl rfl ?_
  intro p e s m below meth c A hx hb hml hr hts hown hlocks hN hA hK hP hD hS ls hl
  have hown : s.vm.findClass RX7 = some m.cls := hown
  have hl : lv_has ls 3 [(0, .ref rr), (1, .int (nI f)), (2, .int (nI 1))] := hl
  obtain ⟨H, hHe⟩ : ∃ H, H = s.heap := ⟨_, rfl⟩
  rw [← hHe] at hP ⊢
  have hS : va_S A s.heap H [] := by rw [hHe]; exact va_S.rf
  have fl13 := hts (.fieldLink RX7 13 "EchoPaysRentModel" "faceMany" "[I") (by decide +kernel)
  have inX7 : ∀ w ∈ wsX70, w ∈ wsX7_face := by decide +kernel
  have fl19 := hts (.fieldLink RX7 19 "EchoPaysRentModel" "dulls" "[I") (by decide +kernel)
  refine lv_iload_n hx hb dX7_face_0 rfl (lv_at hl 1 rfl) ?_
  refine n_i2l hx hb dX7_face_1 (by omega) ?_
  refine lv_lconst (v := lN 0) hx hb dX7_face_2 rfl ?_
  refine lv_aload_n hx hb dX7_face_3 rfl (lv_at hl 0 rfl) ?_
  refine va_get (D := D) (ci := 7) (v := .ref (ad 2)) (C := RX7) (T := TX7) (N := 28) hx hb hts inX7 hown hK hP 0 rfl rfl 2 (by decide) fl13 (fun _ h9 => h9) rfl dX7_face_4 ?_
  refine lv_iconst (v := (nI 0)) hx hb dX7_face_7 (by decide) ?_
  refine x_iald (A := A) hx hb hK hP 1 0 rfl rfl dX7_face_8 (by omega) (by omega) ?_
  refine lv_iconst (v := (nI 1)) hx hb dX7_face_9 (by decide) ?_
  refine x_isub hx hb dX7_face_10 (by omega) ?_
  refine n_i2l hx hb dX7_face_11 (by omega) ?_
  refine k_S (As := [.long (lI (((f : Nat) : Int))), .long (lI (((0 : Nat) : Int))), .long (lI (((fm 0 - 1 : Nat) : Int)))]) (wr := [(rr, eMod ad len kp uo tm em pc0), (ad 2, eArr cI 2 fm), (ad 3, eArr cI 8 pq), (ad 4, eArr cI 8 dq), (ad 5, eArr cI 8 kq), (ad 6, eArr cI 2 ai), (ad 13, eArr cI 4 sna)]) ⟨hx, hb, hml, hown, hts⟩ (c_X7_in l D cI cC (((f : Nat) : Int)) (((0 : Nat) : Int)) (((fm 0 - 1 : Nat) : Int)) (by omega) (by omega) (by omega)) (cwS 3 hts gX7_face_X7_in rfl rfl rfl (by decide +kernel) ⟨Nat.le_of_ble_eq_true rfl, Nat.le_of_ble_eq_true rfl⟩) rfl hl.1 (by simp only [nI_iI, lN_lI]; rfl) (Nat.le_of_ble_eq_true rfl) dX7_face_12 ⟨Nat.zero_le _, Nat.zero_le _⟩ hN hK hP hD hS hA [] [0, 1, 2, 3, 4, 5, 6] rfl rfl ⟨rfl, rfl, by decide⟩ (fun r1 u H locs w2 hP hD hS => ?_)
  obtain ⟨rfl, h3, h4⟩ | ⟨rfl, h5⟩ : (r1 = (nI 1) ∧ (((0 : Nat) : Int)) ≤ (((f : Nat) : Int)) ∧ (((f : Nat) : Int)) ≤ (((fm 0 - 1 : Nat) : Int))) ∨ (r1 = (nI 0) ∧ ((((f : Nat) : Int)) < (((0 : Nat) : Int)) ∨ (((fm 0 - 1 : Nat) : Int)) < (((f : Nat) : Int)))) := w2
  · refine x_if_eq (tgt := 30) hx hb dX7_face_15 (by decide) (by omega) (fun h6 => False.elim (by omega)) (fun h6 => ?_)
    refine lv_iload_n hx hb dX7_face_18 rfl (lv_at hl 2 rfl) ?_
    refine n_i2l hx hb dX7_face_19 (by omega) ?_
    refine lv_lconst (v := lN 0) hx hb dX7_face_20 rfl ?_
    refine lv_ldc2 (v := lN 3) hx hb hown (hts (.constantLong RX7 184 3) (by decide +kernel)) dX7_face_21 ?_
    refine k_S (As := [.long (lI (((1 : Nat) : Int))), .long (lI (((0 : Nat) : Int))), .long (lI (((3 : Nat) : Int)))]) (wr := [(rr, eMod ad len kp uo tm em pc0), (ad 2, eArr cI 2 fm), (ad 3, eArr cI 8 pq), (ad 4, eArr cI 8 dq), (ad 5, eArr cI 8 kq), (ad 6, eArr cI 2 ai), (ad 13, eArr cI 4 sna)]) ⟨hx, hb, hml, hown, hts⟩ (c_X7_in l D cI cC (((1 : Nat) : Int)) (((0 : Nat) : Int)) (((3 : Nat) : Int)) (by omega) (by omega) (by omega)) (cwS 3 hts gX7_face_X7_in rfl rfl rfl (by decide +kernel) ⟨Nat.le_of_ble_eq_true rfl, Nat.le_of_ble_eq_true rfl⟩) rfl hl.1 (by simp only [nI_iI, lN_lI]; rfl) (Nat.le_of_ble_eq_true rfl) dX7_face_24 ⟨Nat.zero_le _, Nat.zero_le _⟩ hN hK hP hD hS hA [] [0, 1, 2, 3, 4, 5, 6] rfl rfl ⟨rfl, rfl, by decide⟩ (fun r7 u H locs w8 hP hD hS => ?_)
    obtain ⟨rfl, h9, h10⟩ | ⟨rfl, h11⟩ : (r7 = (nI 1) ∧ (((0 : Nat) : Int)) ≤ (((1 : Nat) : Int)) ∧ (((1 : Nat) : Int)) ≤ (((3 : Nat) : Int))) ∨ (r7 = (nI 0) ∧ ((((1 : Nat) : Int)) < (((0 : Nat) : Int)) ∨ (((3 : Nat) : Int)) < (((1 : Nat) : Int)))) := w8
    · refine x_if_ne (tgt := 32) hx hb dX7_face_27 (by decide) (by omega) (fun h12 => ?_) (fun h12 => False.elim (by omega))
      refine lv_iload_n hx hb dX7_face_32 rfl (lv_at hl 2 rfl) ?_
      refine x_if_ne (tgt := 45) hx hb dX7_face_33 (by decide) (by omega) (fun h13 => ?_) (fun h13 => False.elim (by omega))
      refine lv_iload_n hx hb dX7_face_45 rfl (lv_at hl 2 rfl) ?_
      refine lv_iconst (v := (nI 1)) hx hb dX7_face_46 (by decide) ?_
      refine x_icmp_ne (tgt := 59) hx hb dX7_face_47 (by decide) (by omega) (by omega) (fun h14 => False.elim (by omega)) (fun h14 => ?_)
      refine lv_aload_n hx hb dX7_face_50 rfl (lv_at hl 0 rfl) ?_
      refine va_get (D := D) (ci := 7) (v := .ref (ad 4)) (C := RX7) (T := TX7) (N := 28) hx hb hts inX7 hown hK hP 0 rfl rfl 4 (by decide) fl19 (fun _ h9 => h9) rfl dX7_face_51 ?_
      refine lv_iload_n hx hb dX7_face_54 rfl (lv_at hl 1 rfl) ?_
      refine x_iald (A := A) hx hb hK hP 3 0 rfl rfl dX7_face_55 (by omega) (by omega) ?_
      refine lv_goto (tgt := 83) hx hb dX7_face_56 (by decide) ?_
      exact x_iret hx hb hr hlocks dX7_face_83 rfl (post := fun (r : Int32) (_ : Unit) => r = (nI (dq f))) (w1 := fun (_ : Unit) => [(rr, eMod ad len kp uo tm em pc0), (ad 2, eArr cI 2 fm), (ad 3, eArr cI 8 pq), (ad 4, eArr cI 8 dq), (ad 5, eArr cI 8 kq), (ad 6, eArr cI 2 ai), (ad 13, eArr cI 4 sna)]) () rfl hK hP hD hS
    · exact False.elim (by omega)
  · exact False.elim (by omega)

set_option maxRecDepth 100000 in
set_option maxHeartbeats 4000000 in
theorem c_X7_face_2 (l : Launch) (D : va_G) (cI cC : ClassId) (rr : Nat) (ad : Nat → Nat) (len : Nat) (kp : Nat) (uo : Nat) (tm : Nat) (em : Nat) (pc0 : Nat) (fm : Nat → Nat) (pq : Nat → Nat) (dq : Nat → Nat) (kq : Nat → Nat) (ai : Nat → Nat) (sna : Nat → Nat) (f : Nat) (hff : f < fm 0 ∧ fm 0 ≤ 4) : mtI l D cI cC yX7_face wsX7_face ({ frames := 1, cells := 0, slots := 0, locals := 25 }) [.ref rr, .int (nI f), .int (nI 2)] [(rr, eMod ad len kp uo tm em pc0), (ad 2, eArr cI 2 fm), (ad 3, eArr cI 8 pq), (ad 4, eArr cI 8 dq), (ad 5, eArr cI 8 kq), (ad 6, eArr cI 2 ai), (ad 13, eArr cI 4 sna)] (fun (r : Int32) (_ : Unit) => r = (nI (kq f))) (fun (_ : Unit) => [(rr, eMod ad len kp uo tm em pc0), (ad 2, eArr cI 2 fm), (ad 3, eArr cI 8 pq), (ad 4, eArr cI 8 dq), (ad 5, eArr cI 8 kq), (ad 6, eArr cI 2 ai), (ad 13, eArr cI 4 sna)]) := by
  refine mtI_of (cc := cX7_face) (maxL := 3) (ret := (some .int)) (by decide) rfl rfl ?_
  intro p e s m below meth c A hx hb hml hr hts hown hlocks hN hA hK hP hD hS ls hl
  have hown : s.vm.findClass RX7 = some m.cls := hown
  have hl : lv_has ls 3 [(0, .ref rr), (1, .int (nI f)), (2, .int (nI 2))] := hl
  obtain ⟨H, hHe⟩ : ∃ H, H = s.heap := ⟨_, rfl⟩
  rw [← hHe] at hP ⊢
  have hS : va_S A s.heap H [] := by rw [hHe]; exact va_S.rf
  have fl13 := hts (.fieldLink RX7 13 "EchoPaysRentModel" "faceMany" "[I") (by decide +kernel)
  have inX7 : ∀ w ∈ wsX70, w ∈ wsX7_face := by decide +kernel
  have fl22 := hts (.fieldLink RX7 22 "EchoPaysRentModel" "kinds" "[I") (by decide +kernel)
  refine lv_iload_n hx hb dX7_face_0 rfl (lv_at hl 1 rfl) ?_
  refine n_i2l hx hb dX7_face_1 (by omega) ?_
  refine lv_lconst (v := lN 0) hx hb dX7_face_2 rfl ?_
  refine lv_aload_n hx hb dX7_face_3 rfl (lv_at hl 0 rfl) ?_
  refine va_get (D := D) (ci := 7) (v := .ref (ad 2)) (C := RX7) (T := TX7) (N := 28) hx hb hts inX7 hown hK hP 0 rfl rfl 2 (by decide) fl13 (fun _ h9 => h9) rfl dX7_face_4 ?_
  refine lv_iconst (v := (nI 0)) hx hb dX7_face_7 (by decide) ?_
  refine x_iald (A := A) hx hb hK hP 1 0 rfl rfl dX7_face_8 (by omega) (by omega) ?_
  refine lv_iconst (v := (nI 1)) hx hb dX7_face_9 (by decide) ?_
  refine x_isub hx hb dX7_face_10 (by omega) ?_
  refine n_i2l hx hb dX7_face_11 (by omega) ?_
  refine k_S (As := [.long (lI (((f : Nat) : Int))), .long (lI (((0 : Nat) : Int))), .long (lI (((fm 0 - 1 : Nat) : Int)))]) (wr := [(rr, eMod ad len kp uo tm em pc0), (ad 2, eArr cI 2 fm), (ad 3, eArr cI 8 pq), (ad 4, eArr cI 8 dq), (ad 5, eArr cI 8 kq), (ad 6, eArr cI 2 ai), (ad 13, eArr cI 4 sna)]) ⟨hx, hb, hml, hown, hts⟩ (c_X7_in l D cI cC (((f : Nat) : Int)) (((0 : Nat) : Int)) (((fm 0 - 1 : Nat) : Int)) (by omega) (by omega) (by omega)) (cwS 3 hts gX7_face_X7_in rfl rfl rfl (by decide +kernel) ⟨Nat.le_of_ble_eq_true rfl, Nat.le_of_ble_eq_true rfl⟩) rfl hl.1 (by simp only [nI_iI, lN_lI]; rfl) (Nat.le_of_ble_eq_true rfl) dX7_face_12 ⟨Nat.zero_le _, Nat.zero_le _⟩ hN hK hP hD hS hA [] [0, 1, 2, 3, 4, 5, 6] rfl rfl ⟨rfl, rfl, by decide⟩ (fun r1 u H locs w2 hP hD hS => ?_)
  obtain ⟨rfl, h3, h4⟩ | ⟨rfl, h5⟩ : (r1 = (nI 1) ∧ (((0 : Nat) : Int)) ≤ (((f : Nat) : Int)) ∧ (((f : Nat) : Int)) ≤ (((fm 0 - 1 : Nat) : Int))) ∨ (r1 = (nI 0) ∧ ((((f : Nat) : Int)) < (((0 : Nat) : Int)) ∨ (((fm 0 - 1 : Nat) : Int)) < (((f : Nat) : Int)))) := w2
  · refine x_if_eq (tgt := 30) hx hb dX7_face_15 (by decide) (by omega) (fun h6 => False.elim (by omega)) (fun h6 => ?_)
    refine lv_iload_n hx hb dX7_face_18 rfl (lv_at hl 2 rfl) ?_
    refine n_i2l hx hb dX7_face_19 (by omega) ?_
    refine lv_lconst (v := lN 0) hx hb dX7_face_20 rfl ?_
    refine lv_ldc2 (v := lN 3) hx hb hown (hts (.constantLong RX7 184 3) (by decide +kernel)) dX7_face_21 ?_
    refine k_S (As := [.long (lI (((2 : Nat) : Int))), .long (lI (((0 : Nat) : Int))), .long (lI (((3 : Nat) : Int)))]) (wr := [(rr, eMod ad len kp uo tm em pc0), (ad 2, eArr cI 2 fm), (ad 3, eArr cI 8 pq), (ad 4, eArr cI 8 dq), (ad 5, eArr cI 8 kq), (ad 6, eArr cI 2 ai), (ad 13, eArr cI 4 sna)]) ⟨hx, hb, hml, hown, hts⟩ (c_X7_in l D cI cC (((2 : Nat) : Int)) (((0 : Nat) : Int)) (((3 : Nat) : Int)) (by omega) (by omega) (by omega)) (cwS 3 hts gX7_face_X7_in rfl rfl rfl (by decide +kernel) ⟨Nat.le_of_ble_eq_true rfl, Nat.le_of_ble_eq_true rfl⟩) rfl hl.1 (by simp only [nI_iI, lN_lI]; rfl) (Nat.le_of_ble_eq_true rfl) dX7_face_24 ⟨Nat.zero_le _, Nat.zero_le _⟩ hN hK hP hD hS hA [] [0, 1, 2, 3, 4, 5, 6] rfl rfl ⟨rfl, rfl, by decide⟩ (fun r7 u H locs w8 hP hD hS => ?_)
    obtain ⟨rfl, h9, h10⟩ | ⟨rfl, h11⟩ : (r7 = (nI 1) ∧ (((0 : Nat) : Int)) ≤ (((2 : Nat) : Int)) ∧ (((2 : Nat) : Int)) ≤ (((3 : Nat) : Int))) ∨ (r7 = (nI 0) ∧ ((((2 : Nat) : Int)) < (((0 : Nat) : Int)) ∨ (((3 : Nat) : Int)) < (((2 : Nat) : Int)))) := w8
    · refine x_if_ne (tgt := 32) hx hb dX7_face_27 (by decide) (by omega) (fun h12 => ?_) (fun h12 => False.elim (by omega))
      refine lv_iload_n hx hb dX7_face_32 rfl (lv_at hl 2 rfl) ?_
      refine x_if_ne (tgt := 45) hx hb dX7_face_33 (by decide) (by omega) (fun h13 => ?_) (fun h13 => False.elim (by omega))
      refine lv_iload_n hx hb dX7_face_45 rfl (lv_at hl 2 rfl) ?_
      refine lv_iconst (v := (nI 1)) hx hb dX7_face_46 (by decide) ?_
      refine x_icmp_ne (tgt := 59) hx hb dX7_face_47 (by decide) (by omega) (by omega) (fun h14 => ?_) (fun h14 => False.elim (by omega))
      refine lv_iload_n hx hb dX7_face_59 rfl (lv_at hl 2 rfl) ?_
      refine lv_iconst (v := (nI 2)) hx hb dX7_face_60 (by decide) ?_
      refine x_icmp_ne (tgt := 73) hx hb dX7_face_61 (by decide) (by omega) (by omega) (fun h15 => False.elim (by omega)) (fun h15 => ?_)
      refine lv_aload_n hx hb dX7_face_64 rfl (lv_at hl 0 rfl) ?_
      refine va_get (D := D) (ci := 7) (v := .ref (ad 5)) (C := RX7) (T := TX7) (N := 28) hx hb hts inX7 hown hK hP 0 rfl rfl 5 (by decide) fl22 (fun _ h9 => h9) rfl dX7_face_65 ?_
      refine lv_iload_n hx hb dX7_face_68 rfl (lv_at hl 1 rfl) ?_
      refine x_iald (A := A) hx hb hK hP 4 0 rfl rfl dX7_face_69 (by omega) (by omega) ?_
      refine lv_goto (tgt := 83) hx hb dX7_face_70 (by decide) ?_
      exact x_iret hx hb hr hlocks dX7_face_83 rfl (post := fun (r : Int32) (_ : Unit) => r = (nI (kq f))) (w1 := fun (_ : Unit) => [(rr, eMod ad len kp uo tm em pc0), (ad 2, eArr cI 2 fm), (ad 3, eArr cI 8 pq), (ad 4, eArr cI 8 dq), (ad 5, eArr cI 8 kq), (ad 6, eArr cI 2 ai), (ad 13, eArr cI 4 sna)]) () rfl hK hP hD hS
    · exact False.elim (by omega)
  · exact False.elim (by omega)

set_option maxRecDepth 100000 in
set_option maxHeartbeats 4000000 in
theorem c_X7_face_3 (l : Launch) (D : va_G) (cI cC : ClassId) (rr : Nat) (ad : Nat → Nat) (len : Nat) (kp : Nat) (uo : Nat) (tm : Nat) (em : Nat) (pc0 : Nat) (fm : Nat → Nat) (pq : Nat → Nat) (dq : Nat → Nat) (kq : Nat → Nat) (ai : Nat → Nat) (sna : Nat → Nat) (f : Nat) (hff : f < fm 0 ∧ fm 0 ≤ 4) (hsn : sna 0 < 2147483648) : mtI l D cI cC yX7_face wsX7_face ({ frames := 1, cells := 0, slots := 0, locals := 25 }) [.ref rr, .int (nI f), .int (nI 3)] [(rr, eMod ad len kp uo tm em pc0), (ad 2, eArr cI 2 fm), (ad 3, eArr cI 8 pq), (ad 4, eArr cI 8 dq), (ad 5, eArr cI 8 kq), (ad 6, eArr cI 2 ai), (ad 13, eArr cI 4 sna)] (fun (r : Int32) (_ : Unit) => r = (nI (sna 0 / 2 ^ f % 2))) (fun (_ : Unit) => [(rr, eMod ad len kp uo tm em pc0), (ad 2, eArr cI 2 fm), (ad 3, eArr cI 8 pq), (ad 4, eArr cI 8 dq), (ad 5, eArr cI 8 kq), (ad 6, eArr cI 2 ai), (ad 13, eArr cI 4 sna)]) := by
  refine mtI_of (cc := cX7_face) (maxL := 3) (ret := (some .int)) (by decide) rfl rfl ?_
  intro p e s m below meth c A hx hb hml hr hts hown hlocks hN hA hK hP hD hS ls hl
  have hown : s.vm.findClass RX7 = some m.cls := hown
  have hl : lv_has ls 3 [(0, .ref rr), (1, .int (nI f)), (2, .int (nI 3))] := hl
  obtain ⟨H, hHe⟩ : ∃ H, H = s.heap := ⟨_, rfl⟩
  rw [← hHe] at hP ⊢
  have hS : va_S A s.heap H [] := by rw [hHe]; exact va_S.rf
  have fl13 := hts (.fieldLink RX7 13 "EchoPaysRentModel" "faceMany" "[I") (by decide +kernel)
  have inX7 : ∀ w ∈ wsX70, w ∈ wsX7_face := by decide +kernel
  have fl46 := hts (.fieldLink RX7 46 "EchoPaysRentModel" "snow" "[I") (by decide +kernel)
  refine lv_iload_n hx hb dX7_face_0 rfl (lv_at hl 1 rfl) ?_
  refine n_i2l hx hb dX7_face_1 (by omega) ?_
  refine lv_lconst (v := lN 0) hx hb dX7_face_2 rfl ?_
  refine lv_aload_n hx hb dX7_face_3 rfl (lv_at hl 0 rfl) ?_
  refine va_get (D := D) (ci := 7) (v := .ref (ad 2)) (C := RX7) (T := TX7) (N := 28) hx hb hts inX7 hown hK hP 0 rfl rfl 2 (by decide) fl13 (fun _ h9 => h9) rfl dX7_face_4 ?_
  refine lv_iconst (v := (nI 0)) hx hb dX7_face_7 (by decide) ?_
  refine x_iald (A := A) hx hb hK hP 1 0 rfl rfl dX7_face_8 (by omega) (by omega) ?_
  refine lv_iconst (v := (nI 1)) hx hb dX7_face_9 (by decide) ?_
  refine x_isub hx hb dX7_face_10 (by omega) ?_
  refine n_i2l hx hb dX7_face_11 (by omega) ?_
  refine k_S (As := [.long (lI (((f : Nat) : Int))), .long (lI (((0 : Nat) : Int))), .long (lI (((fm 0 - 1 : Nat) : Int)))]) (wr := [(rr, eMod ad len kp uo tm em pc0), (ad 2, eArr cI 2 fm), (ad 3, eArr cI 8 pq), (ad 4, eArr cI 8 dq), (ad 5, eArr cI 8 kq), (ad 6, eArr cI 2 ai), (ad 13, eArr cI 4 sna)]) ⟨hx, hb, hml, hown, hts⟩ (c_X7_in l D cI cC (((f : Nat) : Int)) (((0 : Nat) : Int)) (((fm 0 - 1 : Nat) : Int)) (by omega) (by omega) (by omega)) (cwS 3 hts gX7_face_X7_in rfl rfl rfl (by decide +kernel) ⟨Nat.le_of_ble_eq_true rfl, Nat.le_of_ble_eq_true rfl⟩) rfl hl.1 (by simp only [nI_iI, lN_lI]; rfl) (Nat.le_of_ble_eq_true rfl) dX7_face_12 ⟨Nat.zero_le _, Nat.zero_le _⟩ hN hK hP hD hS hA [] [0, 1, 2, 3, 4, 5, 6] rfl rfl ⟨rfl, rfl, by decide⟩ (fun r1 u H locs w2 hP hD hS => ?_)
  obtain ⟨rfl, h3, h4⟩ | ⟨rfl, h5⟩ : (r1 = (nI 1) ∧ (((0 : Nat) : Int)) ≤ (((f : Nat) : Int)) ∧ (((f : Nat) : Int)) ≤ (((fm 0 - 1 : Nat) : Int))) ∨ (r1 = (nI 0) ∧ ((((f : Nat) : Int)) < (((0 : Nat) : Int)) ∨ (((fm 0 - 1 : Nat) : Int)) < (((f : Nat) : Int)))) := w2
  · refine x_if_eq (tgt := 30) hx hb dX7_face_15 (by decide) (by omega) (fun h6 => False.elim (by omega)) (fun h6 => ?_)
    refine lv_iload_n hx hb dX7_face_18 rfl (lv_at hl 2 rfl) ?_
    refine n_i2l hx hb dX7_face_19 (by omega) ?_
    refine lv_lconst (v := lN 0) hx hb dX7_face_20 rfl ?_
    refine lv_ldc2 (v := lN 3) hx hb hown (hts (.constantLong RX7 184 3) (by decide +kernel)) dX7_face_21 ?_
    refine k_S (As := [.long (lI (((3 : Nat) : Int))), .long (lI (((0 : Nat) : Int))), .long (lI (((3 : Nat) : Int)))]) (wr := [(rr, eMod ad len kp uo tm em pc0), (ad 2, eArr cI 2 fm), (ad 3, eArr cI 8 pq), (ad 4, eArr cI 8 dq), (ad 5, eArr cI 8 kq), (ad 6, eArr cI 2 ai), (ad 13, eArr cI 4 sna)]) ⟨hx, hb, hml, hown, hts⟩ (c_X7_in l D cI cC (((3 : Nat) : Int)) (((0 : Nat) : Int)) (((3 : Nat) : Int)) (by omega) (by omega) (by omega)) (cwS 3 hts gX7_face_X7_in rfl rfl rfl (by decide +kernel) ⟨Nat.le_of_ble_eq_true rfl, Nat.le_of_ble_eq_true rfl⟩) rfl hl.1 (by simp only [nI_iI, lN_lI]; rfl) (Nat.le_of_ble_eq_true rfl) dX7_face_24 ⟨Nat.zero_le _, Nat.zero_le _⟩ hN hK hP hD hS hA [] [0, 1, 2, 3, 4, 5, 6] rfl rfl ⟨rfl, rfl, by decide⟩ (fun r7 u H locs w8 hP hD hS => ?_)
    obtain ⟨rfl, h9, h10⟩ | ⟨rfl, h11⟩ : (r7 = (nI 1) ∧ (((0 : Nat) : Int)) ≤ (((3 : Nat) : Int)) ∧ (((3 : Nat) : Int)) ≤ (((3 : Nat) : Int))) ∨ (r7 = (nI 0) ∧ ((((3 : Nat) : Int)) < (((0 : Nat) : Int)) ∨ (((3 : Nat) : Int)) < (((3 : Nat) : Int)))) := w8
    · refine x_if_ne (tgt := 32) hx hb dX7_face_27 (by decide) (by omega) (fun h12 => ?_) (fun h12 => False.elim (by omega))
      refine lv_iload_n hx hb dX7_face_32 rfl (lv_at hl 2 rfl) ?_
      refine x_if_ne (tgt := 45) hx hb dX7_face_33 (by decide) (by omega) (fun h13 => ?_) (fun h13 => False.elim (by omega))
      refine lv_iload_n hx hb dX7_face_45 rfl (lv_at hl 2 rfl) ?_
      refine lv_iconst (v := (nI 1)) hx hb dX7_face_46 (by decide) ?_
      refine x_icmp_ne (tgt := 59) hx hb dX7_face_47 (by decide) (by omega) (by omega) (fun h14 => ?_) (fun h14 => False.elim (by omega))
      refine lv_iload_n hx hb dX7_face_59 rfl (lv_at hl 2 rfl) ?_
      refine lv_iconst (v := (nI 2)) hx hb dX7_face_60 (by decide) ?_
      refine x_icmp_ne (tgt := 73) hx hb dX7_face_61 (by decide) (by omega) (by omega) (fun h15 => ?_) (fun h15 => False.elim (by omega))
      refine lv_aload_n hx hb dX7_face_73 rfl (lv_at hl 0 rfl) ?_
      refine va_get (D := D) (ci := 7) (v := .ref (ad 13)) (C := RX7) (T := TX7) (N := 28) hx hb hts inX7 hown hK hP 0 rfl rfl 13 (by decide) fl46 (fun _ h9 => h9) rfl dX7_face_74 ?_
      refine lv_iconst (v := (nI 0)) hx hb dX7_face_77 (by decide) ?_
      refine x_iald (A := A) hx hb hK hP 6 0 rfl rfl dX7_face_78 (by omega) (by omega) ?_
      refine lv_iload_n hx hb dX7_face_79 rfl (lv_at hl 1 rfl) ?_
      refine x_ishr hx hb dX7_face_80 (by omega) (by omega) ?_
      refine lv_iconst (v := (nI 1)) hx hb dX7_face_81 (by decide) ?_
      refine x_iand1 hx hb dX7_face_82 ?_
      exact x_iret hx hb hr hlocks dX7_face_83 rfl (post := fun (r : Int32) (_ : Unit) => r = (nI (sna 0 / 2 ^ f % 2))) (w1 := fun (_ : Unit) => [(rr, eMod ad len kp uo tm em pc0), (ad 2, eArr cI 2 fm), (ad 3, eArr cI 8 pq), (ad 4, eArr cI 8 dq), (ad 5, eArr cI 8 kq), (ad 6, eArr cI 2 ai), (ad 13, eArr cI 4 sna)]) () rfl hK hP hD hS
    · exact False.elim (by omega)
  · exact False.elim (by omega)

set_option maxRecDepth 100000 in
set_option maxHeartbeats 4000000 in
theorem c_X7_word_0 (l : Launch) (D : va_G) (cI cC : ClassId) (rr : Nat) (ad : Nat → Nat) (len : Nat) (kp : Nat) (uo : Nat) (tm : Nat) (em : Nat) (pc0 : Nat) (wma : Nat → Nat) (be : Nat → Nat) (va : Nat → Nat) (lo : Nat → Nat) (f : Nat) (hff : f < wma 0 ∧ wma 0 ≤ 8) : mtI l D cI cC yX7_word wsX7_word ({ frames := 1, cells := 0, slots := 0, locals := 25 }) [.ref rr, .int (nI f), .int (nI 0)] [(rr, eMod ad len kp uo tm em pc0), (ad 7, eArr cI 4 wma), (ad 8, eArr cI 32 be), (ad 9, eArr cI 32 va), (ad 10, eArr cI 32 lo)] (fun (r : Int32) (_ : Unit) => r = (nI (be f))) (fun (_ : Unit) => [(rr, eMod ad len kp uo tm em pc0), (ad 7, eArr cI 4 wma), (ad 8, eArr cI 32 be), (ad 9, eArr cI 32 va), (ad 10, eArr cI 32 lo)]) := by
  refine mtI_of (cc := cX7_word) (maxL := 3) (ret := (some .int)) (by decide) rfl rfl ?_
  intro p e s m below meth c A hx hb hml hr hts hown hlocks hN hA hK hP hD hS ls hl
  have hown : s.vm.findClass RX7 = some m.cls := hown
  have hl : lv_has ls 3 [(0, .ref rr), (1, .int (nI f)), (2, .int (nI 0))] := hl
  obtain ⟨H, hHe⟩ : ∃ H, H = s.heap := ⟨_, rfl⟩
  rw [← hHe] at hP ⊢
  have hS : va_S A s.heap H [] := by rw [hHe]; exact va_S.rf
  have fl28 := hts (.fieldLink RX7 28 "EchoPaysRentModel" "wordMany" "[I") (by decide +kernel)
  have inX7 : ∀ w ∈ wsX70, w ∈ wsX7_word := by decide +kernel
  have fl31 := hts (.fieldLink RX7 31 "EchoPaysRentModel" "beats" "[I") (by decide +kernel)
  refine lv_iload_n hx hb dX7_word_0 rfl (lv_at hl 1 rfl) ?_
  refine n_i2l hx hb dX7_word_1 (by omega) ?_
  refine lv_lconst (v := lN 0) hx hb dX7_word_2 rfl ?_
  refine lv_aload_n hx hb dX7_word_3 rfl (lv_at hl 0 rfl) ?_
  refine va_get (D := D) (ci := 7) (v := .ref (ad 7)) (C := RX7) (T := TX7) (N := 28) hx hb hts inX7 hown hK hP 0 rfl rfl 7 (by decide) fl28 (fun _ h9 => h9) rfl dX7_word_4 ?_
  refine lv_iconst (v := (nI 0)) hx hb dX7_word_7 (by decide) ?_
  refine x_iald (A := A) hx hb hK hP 1 0 rfl rfl dX7_word_8 (by omega) (by omega) ?_
  refine lv_iconst (v := (nI 1)) hx hb dX7_word_9 (by decide) ?_
  refine x_isub hx hb dX7_word_10 (by omega) ?_
  refine n_i2l hx hb dX7_word_11 (by omega) ?_
  refine k_S (As := [.long (lI (((f : Nat) : Int))), .long (lI (((0 : Nat) : Int))), .long (lI (((wma 0 - 1 : Nat) : Int)))]) (wr := [(rr, eMod ad len kp uo tm em pc0), (ad 7, eArr cI 4 wma), (ad 8, eArr cI 32 be), (ad 9, eArr cI 32 va), (ad 10, eArr cI 32 lo)]) ⟨hx, hb, hml, hown, hts⟩ (c_X7_in l D cI cC (((f : Nat) : Int)) (((0 : Nat) : Int)) (((wma 0 - 1 : Nat) : Int)) (by omega) (by omega) (by omega)) (cwS 3 hts gX7_word_X7_in rfl rfl rfl (by decide +kernel) ⟨Nat.le_of_ble_eq_true rfl, Nat.le_of_ble_eq_true rfl⟩) rfl hl.1 (by simp only [nI_iI, lN_lI]; rfl) (Nat.le_of_ble_eq_true rfl) dX7_word_12 ⟨Nat.zero_le _, Nat.zero_le _⟩ hN hK hP hD hS hA [] [0, 1, 2, 3, 4] rfl rfl ⟨rfl, rfl, by decide⟩ (fun r1 u H locs w2 hP hD hS => ?_)
  obtain ⟨rfl, h3, h4⟩ | ⟨rfl, h5⟩ : (r1 = (nI 1) ∧ (((0 : Nat) : Int)) ≤ (((f : Nat) : Int)) ∧ (((f : Nat) : Int)) ≤ (((wma 0 - 1 : Nat) : Int))) ∨ (r1 = (nI 0) ∧ ((((f : Nat) : Int)) < (((0 : Nat) : Int)) ∨ (((wma 0 - 1 : Nat) : Int)) < (((f : Nat) : Int)))) := w2
  · refine x_if_eq (tgt := 30) hx hb dX7_word_15 (by decide) (by omega) (fun h6 => False.elim (by omega)) (fun h6 => ?_)
    refine lv_iload_n hx hb dX7_word_18 rfl (lv_at hl 2 rfl) ?_
    refine n_i2l hx hb dX7_word_19 (by omega) ?_
    refine lv_lconst (v := lN 0) hx hb dX7_word_20 rfl ?_
    refine lv_ldc2 (v := lN 3) hx hb hown (hts (.constantLong RX7 184 3) (by decide +kernel)) dX7_word_21 ?_
    refine k_S (As := [.long (lI (((0 : Nat) : Int))), .long (lI (((0 : Nat) : Int))), .long (lI (((3 : Nat) : Int)))]) (wr := [(rr, eMod ad len kp uo tm em pc0), (ad 7, eArr cI 4 wma), (ad 8, eArr cI 32 be), (ad 9, eArr cI 32 va), (ad 10, eArr cI 32 lo)]) ⟨hx, hb, hml, hown, hts⟩ (c_X7_in l D cI cC (((0 : Nat) : Int)) (((0 : Nat) : Int)) (((3 : Nat) : Int)) (by omega) (by omega) (by omega)) (cwS 3 hts gX7_word_X7_in rfl rfl rfl (by decide +kernel) ⟨Nat.le_of_ble_eq_true rfl, Nat.le_of_ble_eq_true rfl⟩) rfl hl.1 (by simp only [nI_iI, lN_lI]; rfl) (Nat.le_of_ble_eq_true rfl) dX7_word_24 ⟨Nat.zero_le _, Nat.zero_le _⟩ hN hK hP hD hS hA [] [0, 1, 2, 3, 4] rfl rfl ⟨rfl, rfl, by decide⟩ (fun r7 u H locs w8 hP hD hS => ?_)
    obtain ⟨rfl, h9, h10⟩ | ⟨rfl, h11⟩ : (r7 = (nI 1) ∧ (((0 : Nat) : Int)) ≤ (((0 : Nat) : Int)) ∧ (((0 : Nat) : Int)) ≤ (((3 : Nat) : Int))) ∨ (r7 = (nI 0) ∧ ((((0 : Nat) : Int)) < (((0 : Nat) : Int)) ∨ (((3 : Nat) : Int)) < (((0 : Nat) : Int)))) := w8
    · refine x_if_ne (tgt := 32) hx hb dX7_word_27 (by decide) (by omega) (fun h12 => ?_) (fun h12 => False.elim (by omega))
      refine lv_iload_n hx hb dX7_word_32 rfl (lv_at hl 2 rfl) ?_
      refine lv_iconst (v := (nI 3)) hx hb dX7_word_33 (by decide) ?_
      refine x_icmp_ne (tgt := 81) hx hb dX7_word_34 (by decide) (by omega) (by omega) (fun h13 => ?_) (fun h13 => False.elim (by omega))
      refine lv_iload_n hx hb dX7_word_81 rfl (lv_at hl 2 rfl) ?_
      refine x_if_ne (tgt := 94) hx hb dX7_word_82 (by decide) (by omega) (fun h14 => False.elim (by omega)) (fun h14 => ?_)
      refine lv_aload_n hx hb dX7_word_85 rfl (lv_at hl 0 rfl) ?_
      refine va_get (D := D) (ci := 7) (v := .ref (ad 8)) (C := RX7) (T := TX7) (N := 28) hx hb hts inX7 hown hK hP 0 rfl rfl 8 (by decide) fl31 (fun _ h9 => h9) rfl dX7_word_86 ?_
      refine lv_iload_n hx hb dX7_word_89 rfl (lv_at hl 1 rfl) ?_
      refine x_iald (A := A) hx hb hK hP 2 0 rfl rfl dX7_word_90 (by omega) (by omega) ?_
      refine lv_goto (tgt := 114) hx hb dX7_word_91 (by decide) ?_
      exact x_iret hx hb hr hlocks dX7_word_114 rfl (post := fun (r : Int32) (_ : Unit) => r = (nI (be f))) (w1 := fun (_ : Unit) => [(rr, eMod ad len kp uo tm em pc0), (ad 7, eArr cI 4 wma), (ad 8, eArr cI 32 be), (ad 9, eArr cI 32 va), (ad 10, eArr cI 32 lo)]) () rfl hK hP hD hS
    · exact False.elim (by omega)
  · exact False.elim (by omega)

set_option maxRecDepth 100000 in
set_option maxHeartbeats 4000000 in
theorem c_X7_word_1 (l : Launch) (D : va_G) (cI cC : ClassId) (rr : Nat) (ad : Nat → Nat) (len : Nat) (kp : Nat) (uo : Nat) (tm : Nat) (em : Nat) (pc0 : Nat) (wma : Nat → Nat) (be : Nat → Nat) (va : Nat → Nat) (lo : Nat → Nat) (f : Nat) (hff : f < wma 0 ∧ wma 0 ≤ 8) : mtI l D cI cC yX7_word wsX7_word ({ frames := 1, cells := 0, slots := 0, locals := 25 }) [.ref rr, .int (nI f), .int (nI 1)] [(rr, eMod ad len kp uo tm em pc0), (ad 7, eArr cI 4 wma), (ad 8, eArr cI 32 be), (ad 9, eArr cI 32 va), (ad 10, eArr cI 32 lo)] (fun (r : Int32) (_ : Unit) => r = (nI (va f))) (fun (_ : Unit) => [(rr, eMod ad len kp uo tm em pc0), (ad 7, eArr cI 4 wma), (ad 8, eArr cI 32 be), (ad 9, eArr cI 32 va), (ad 10, eArr cI 32 lo)]) := by
  refine mtI_of (cc := cX7_word) (maxL := 3) (ret := (some .int)) (by decide) rfl rfl ?_
  intro p e s m below meth c A hx hb hml hr hts hown hlocks hN hA hK hP hD hS ls hl
  have hown : s.vm.findClass RX7 = some m.cls := hown
  have hl : lv_has ls 3 [(0, .ref rr), (1, .int (nI f)), (2, .int (nI 1))] := hl
  obtain ⟨H, hHe⟩ : ∃ H, H = s.heap := ⟨_, rfl⟩
  rw [← hHe] at hP ⊢
  have hS : va_S A s.heap H [] := by rw [hHe]; exact va_S.rf
  have fl28 := hts (.fieldLink RX7 28 "EchoPaysRentModel" "wordMany" "[I") (by decide +kernel)
  have inX7 : ∀ w ∈ wsX70, w ∈ wsX7_word := by decide +kernel
  have fl34 := hts (.fieldLink RX7 34 "EchoPaysRentModel" "values" "[I") (by decide +kernel)
  refine lv_iload_n hx hb dX7_word_0 rfl (lv_at hl 1 rfl) ?_
  refine n_i2l hx hb dX7_word_1 (by omega) ?_
  refine lv_lconst (v := lN 0) hx hb dX7_word_2 rfl ?_
  refine lv_aload_n hx hb dX7_word_3 rfl (lv_at hl 0 rfl) ?_
  refine va_get (D := D) (ci := 7) (v := .ref (ad 7)) (C := RX7) (T := TX7) (N := 28) hx hb hts inX7 hown hK hP 0 rfl rfl 7 (by decide) fl28 (fun _ h9 => h9) rfl dX7_word_4 ?_
  refine lv_iconst (v := (nI 0)) hx hb dX7_word_7 (by decide) ?_
  refine x_iald (A := A) hx hb hK hP 1 0 rfl rfl dX7_word_8 (by omega) (by omega) ?_
  refine lv_iconst (v := (nI 1)) hx hb dX7_word_9 (by decide) ?_
  refine x_isub hx hb dX7_word_10 (by omega) ?_
  refine n_i2l hx hb dX7_word_11 (by omega) ?_
  refine k_S (As := [.long (lI (((f : Nat) : Int))), .long (lI (((0 : Nat) : Int))), .long (lI (((wma 0 - 1 : Nat) : Int)))]) (wr := [(rr, eMod ad len kp uo tm em pc0), (ad 7, eArr cI 4 wma), (ad 8, eArr cI 32 be), (ad 9, eArr cI 32 va), (ad 10, eArr cI 32 lo)]) ⟨hx, hb, hml, hown, hts⟩ (c_X7_in l D cI cC (((f : Nat) : Int)) (((0 : Nat) : Int)) (((wma 0 - 1 : Nat) : Int)) (by omega) (by omega) (by omega)) (cwS 3 hts gX7_word_X7_in rfl rfl rfl (by decide +kernel) ⟨Nat.le_of_ble_eq_true rfl, Nat.le_of_ble_eq_true rfl⟩) rfl hl.1 (by simp only [nI_iI, lN_lI]; rfl) (Nat.le_of_ble_eq_true rfl) dX7_word_12 ⟨Nat.zero_le _, Nat.zero_le _⟩ hN hK hP hD hS hA [] [0, 1, 2, 3, 4] rfl rfl ⟨rfl, rfl, by decide⟩ (fun r1 u H locs w2 hP hD hS => ?_)
  obtain ⟨rfl, h3, h4⟩ | ⟨rfl, h5⟩ : (r1 = (nI 1) ∧ (((0 : Nat) : Int)) ≤ (((f : Nat) : Int)) ∧ (((f : Nat) : Int)) ≤ (((wma 0 - 1 : Nat) : Int))) ∨ (r1 = (nI 0) ∧ ((((f : Nat) : Int)) < (((0 : Nat) : Int)) ∨ (((wma 0 - 1 : Nat) : Int)) < (((f : Nat) : Int)))) := w2
  · refine x_if_eq (tgt := 30) hx hb dX7_word_15 (by decide) (by omega) (fun h6 => False.elim (by omega)) (fun h6 => ?_)
    refine lv_iload_n hx hb dX7_word_18 rfl (lv_at hl 2 rfl) ?_
    refine n_i2l hx hb dX7_word_19 (by omega) ?_
    refine lv_lconst (v := lN 0) hx hb dX7_word_20 rfl ?_
    refine lv_ldc2 (v := lN 3) hx hb hown (hts (.constantLong RX7 184 3) (by decide +kernel)) dX7_word_21 ?_
    refine k_S (As := [.long (lI (((1 : Nat) : Int))), .long (lI (((0 : Nat) : Int))), .long (lI (((3 : Nat) : Int)))]) (wr := [(rr, eMod ad len kp uo tm em pc0), (ad 7, eArr cI 4 wma), (ad 8, eArr cI 32 be), (ad 9, eArr cI 32 va), (ad 10, eArr cI 32 lo)]) ⟨hx, hb, hml, hown, hts⟩ (c_X7_in l D cI cC (((1 : Nat) : Int)) (((0 : Nat) : Int)) (((3 : Nat) : Int)) (by omega) (by omega) (by omega)) (cwS 3 hts gX7_word_X7_in rfl rfl rfl (by decide +kernel) ⟨Nat.le_of_ble_eq_true rfl, Nat.le_of_ble_eq_true rfl⟩) rfl hl.1 (by simp only [nI_iI, lN_lI]; rfl) (Nat.le_of_ble_eq_true rfl) dX7_word_24 ⟨Nat.zero_le _, Nat.zero_le _⟩ hN hK hP hD hS hA [] [0, 1, 2, 3, 4] rfl rfl ⟨rfl, rfl, by decide⟩ (fun r7 u H locs w8 hP hD hS => ?_)
    obtain ⟨rfl, h9, h10⟩ | ⟨rfl, h11⟩ : (r7 = (nI 1) ∧ (((0 : Nat) : Int)) ≤ (((1 : Nat) : Int)) ∧ (((1 : Nat) : Int)) ≤ (((3 : Nat) : Int))) ∨ (r7 = (nI 0) ∧ ((((1 : Nat) : Int)) < (((0 : Nat) : Int)) ∨ (((3 : Nat) : Int)) < (((1 : Nat) : Int)))) := w8
    · refine x_if_ne (tgt := 32) hx hb dX7_word_27 (by decide) (by omega) (fun h12 => ?_) (fun h12 => False.elim (by omega))
      refine lv_iload_n hx hb dX7_word_32 rfl (lv_at hl 2 rfl) ?_
      refine lv_iconst (v := (nI 3)) hx hb dX7_word_33 (by decide) ?_
      refine x_icmp_ne (tgt := 81) hx hb dX7_word_34 (by decide) (by omega) (by omega) (fun h13 => ?_) (fun h13 => False.elim (by omega))
      refine lv_iload_n hx hb dX7_word_81 rfl (lv_at hl 2 rfl) ?_
      refine x_if_ne (tgt := 94) hx hb dX7_word_82 (by decide) (by omega) (fun h14 => ?_) (fun h14 => False.elim (by omega))
      refine lv_iload_n hx hb dX7_word_94 rfl (lv_at hl 2 rfl) ?_
      refine lv_iconst (v := (nI 1)) hx hb dX7_word_95 (by decide) ?_
      refine x_icmp_ne (tgt := 108) hx hb dX7_word_96 (by decide) (by omega) (by omega) (fun h15 => False.elim (by omega)) (fun h15 => ?_)
      refine lv_aload_n hx hb dX7_word_99 rfl (lv_at hl 0 rfl) ?_
      refine va_get (D := D) (ci := 7) (v := .ref (ad 9)) (C := RX7) (T := TX7) (N := 28) hx hb hts inX7 hown hK hP 0 rfl rfl 9 (by decide) fl34 (fun _ h9 => h9) rfl dX7_word_100 ?_
      refine lv_iload_n hx hb dX7_word_103 rfl (lv_at hl 1 rfl) ?_
      refine x_iald (A := A) hx hb hK hP 3 0 rfl rfl dX7_word_104 (by omega) (by omega) ?_
      refine lv_goto (tgt := 114) hx hb dX7_word_105 (by decide) ?_
      exact x_iret hx hb hr hlocks dX7_word_114 rfl (post := fun (r : Int32) (_ : Unit) => r = (nI (va f))) (w1 := fun (_ : Unit) => [(rr, eMod ad len kp uo tm em pc0), (ad 7, eArr cI 4 wma), (ad 8, eArr cI 32 be), (ad 9, eArr cI 32 va), (ad 10, eArr cI 32 lo)]) () rfl hK hP hD hS
    · exact False.elim (by omega)
  · exact False.elim (by omega)

set_option maxRecDepth 100000 in
set_option maxHeartbeats 4000000 in
theorem c_X7_word_2 (l : Launch) (D : va_G) (cI cC : ClassId) (rr : Nat) (ad : Nat → Nat) (len : Nat) (kp : Nat) (uo : Nat) (tm : Nat) (em : Nat) (pc0 : Nat) (wma : Nat → Nat) (be : Nat → Nat) (va : Nat → Nat) (lo : Nat → Nat) (f : Nat) (hff : f < wma 0 ∧ wma 0 ≤ 8) : mtI l D cI cC yX7_word wsX7_word ({ frames := 1, cells := 0, slots := 0, locals := 25 }) [.ref rr, .int (nI f), .int (nI 2)] [(rr, eMod ad len kp uo tm em pc0), (ad 7, eArr cI 4 wma), (ad 8, eArr cI 32 be), (ad 9, eArr cI 32 va), (ad 10, eArr cI 32 lo)] (fun (r : Int32) (_ : Unit) => r = (nI (lo f))) (fun (_ : Unit) => [(rr, eMod ad len kp uo tm em pc0), (ad 7, eArr cI 4 wma), (ad 8, eArr cI 32 be), (ad 9, eArr cI 32 va), (ad 10, eArr cI 32 lo)]) := by
  refine mtI_of (cc := cX7_word) (maxL := 3) (ret := (some .int)) (by decide) rfl rfl ?_
  intro p e s m below meth c A hx hb hml hr hts hown hlocks hN hA hK hP hD hS ls hl
  have hown : s.vm.findClass RX7 = some m.cls := hown
  have hl : lv_has ls 3 [(0, .ref rr), (1, .int (nI f)), (2, .int (nI 2))] := hl
  obtain ⟨H, hHe⟩ : ∃ H, H = s.heap := ⟨_, rfl⟩
  rw [← hHe] at hP ⊢
  have hS : va_S A s.heap H [] := by rw [hHe]; exact va_S.rf
  have fl28 := hts (.fieldLink RX7 28 "EchoPaysRentModel" "wordMany" "[I") (by decide +kernel)
  have inX7 : ∀ w ∈ wsX70, w ∈ wsX7_word := by decide +kernel
  have fl37 := hts (.fieldLink RX7 37 "EchoPaysRentModel" "louds" "[I") (by decide +kernel)
  refine lv_iload_n hx hb dX7_word_0 rfl (lv_at hl 1 rfl) ?_
  refine n_i2l hx hb dX7_word_1 (by omega) ?_
  refine lv_lconst (v := lN 0) hx hb dX7_word_2 rfl ?_
  refine lv_aload_n hx hb dX7_word_3 rfl (lv_at hl 0 rfl) ?_
  refine va_get (D := D) (ci := 7) (v := .ref (ad 7)) (C := RX7) (T := TX7) (N := 28) hx hb hts inX7 hown hK hP 0 rfl rfl 7 (by decide) fl28 (fun _ h9 => h9) rfl dX7_word_4 ?_
  refine lv_iconst (v := (nI 0)) hx hb dX7_word_7 (by decide) ?_
  refine x_iald (A := A) hx hb hK hP 1 0 rfl rfl dX7_word_8 (by omega) (by omega) ?_
  refine lv_iconst (v := (nI 1)) hx hb dX7_word_9 (by decide) ?_
  refine x_isub hx hb dX7_word_10 (by omega) ?_
  refine n_i2l hx hb dX7_word_11 (by omega) ?_
  refine k_S (As := [.long (lI (((f : Nat) : Int))), .long (lI (((0 : Nat) : Int))), .long (lI (((wma 0 - 1 : Nat) : Int)))]) (wr := [(rr, eMod ad len kp uo tm em pc0), (ad 7, eArr cI 4 wma), (ad 8, eArr cI 32 be), (ad 9, eArr cI 32 va), (ad 10, eArr cI 32 lo)]) ⟨hx, hb, hml, hown, hts⟩ (c_X7_in l D cI cC (((f : Nat) : Int)) (((0 : Nat) : Int)) (((wma 0 - 1 : Nat) : Int)) (by omega) (by omega) (by omega)) (cwS 3 hts gX7_word_X7_in rfl rfl rfl (by decide +kernel) ⟨Nat.le_of_ble_eq_true rfl, Nat.le_of_ble_eq_true rfl⟩) rfl hl.1 (by simp only [nI_iI, lN_lI]; rfl) (Nat.le_of_ble_eq_true rfl) dX7_word_12 ⟨Nat.zero_le _, Nat.zero_le _⟩ hN hK hP hD hS hA [] [0, 1, 2, 3, 4] rfl rfl ⟨rfl, rfl, by decide⟩ (fun r1 u H locs w2 hP hD hS => ?_)
  obtain ⟨rfl, h3, h4⟩ | ⟨rfl, h5⟩ : (r1 = (nI 1) ∧ (((0 : Nat) : Int)) ≤ (((f : Nat) : Int)) ∧ (((f : Nat) : Int)) ≤ (((wma 0 - 1 : Nat) : Int))) ∨ (r1 = (nI 0) ∧ ((((f : Nat) : Int)) < (((0 : Nat) : Int)) ∨ (((wma 0 - 1 : Nat) : Int)) < (((f : Nat) : Int)))) := w2
  · refine x_if_eq (tgt := 30) hx hb dX7_word_15 (by decide) (by omega) (fun h6 => False.elim (by omega)) (fun h6 => ?_)
    refine lv_iload_n hx hb dX7_word_18 rfl (lv_at hl 2 rfl) ?_
    refine n_i2l hx hb dX7_word_19 (by omega) ?_
    refine lv_lconst (v := lN 0) hx hb dX7_word_20 rfl ?_
    refine lv_ldc2 (v := lN 3) hx hb hown (hts (.constantLong RX7 184 3) (by decide +kernel)) dX7_word_21 ?_
    refine k_S (As := [.long (lI (((2 : Nat) : Int))), .long (lI (((0 : Nat) : Int))), .long (lI (((3 : Nat) : Int)))]) (wr := [(rr, eMod ad len kp uo tm em pc0), (ad 7, eArr cI 4 wma), (ad 8, eArr cI 32 be), (ad 9, eArr cI 32 va), (ad 10, eArr cI 32 lo)]) ⟨hx, hb, hml, hown, hts⟩ (c_X7_in l D cI cC (((2 : Nat) : Int)) (((0 : Nat) : Int)) (((3 : Nat) : Int)) (by omega) (by omega) (by omega)) (cwS 3 hts gX7_word_X7_in rfl rfl rfl (by decide +kernel) ⟨Nat.le_of_ble_eq_true rfl, Nat.le_of_ble_eq_true rfl⟩) rfl hl.1 (by simp only [nI_iI, lN_lI]; rfl) (Nat.le_of_ble_eq_true rfl) dX7_word_24 ⟨Nat.zero_le _, Nat.zero_le _⟩ hN hK hP hD hS hA [] [0, 1, 2, 3, 4] rfl rfl ⟨rfl, rfl, by decide⟩ (fun r7 u H locs w8 hP hD hS => ?_)
    obtain ⟨rfl, h9, h10⟩ | ⟨rfl, h11⟩ : (r7 = (nI 1) ∧ (((0 : Nat) : Int)) ≤ (((2 : Nat) : Int)) ∧ (((2 : Nat) : Int)) ≤ (((3 : Nat) : Int))) ∨ (r7 = (nI 0) ∧ ((((2 : Nat) : Int)) < (((0 : Nat) : Int)) ∨ (((3 : Nat) : Int)) < (((2 : Nat) : Int)))) := w8
    · refine x_if_ne (tgt := 32) hx hb dX7_word_27 (by decide) (by omega) (fun h12 => ?_) (fun h12 => False.elim (by omega))
      refine lv_iload_n hx hb dX7_word_32 rfl (lv_at hl 2 rfl) ?_
      refine lv_iconst (v := (nI 3)) hx hb dX7_word_33 (by decide) ?_
      refine x_icmp_ne (tgt := 81) hx hb dX7_word_34 (by decide) (by omega) (by omega) (fun h13 => ?_) (fun h13 => False.elim (by omega))
      refine lv_iload_n hx hb dX7_word_81 rfl (lv_at hl 2 rfl) ?_
      refine x_if_ne (tgt := 94) hx hb dX7_word_82 (by decide) (by omega) (fun h14 => ?_) (fun h14 => False.elim (by omega))
      refine lv_iload_n hx hb dX7_word_94 rfl (lv_at hl 2 rfl) ?_
      refine lv_iconst (v := (nI 1)) hx hb dX7_word_95 (by decide) ?_
      refine x_icmp_ne (tgt := 108) hx hb dX7_word_96 (by decide) (by omega) (by omega) (fun h15 => ?_) (fun h15 => False.elim (by omega))
      refine lv_aload_n hx hb dX7_word_108 rfl (lv_at hl 0 rfl) ?_
      refine va_get (D := D) (ci := 7) (v := .ref (ad 10)) (C := RX7) (T := TX7) (N := 28) hx hb hts inX7 hown hK hP 0 rfl rfl 10 (by decide) fl37 (fun _ h9 => h9) rfl dX7_word_109 ?_
      refine lv_iload_n hx hb dX7_word_112 rfl (lv_at hl 1 rfl) ?_
      refine x_iald (A := A) hx hb hK hP 4 0 rfl rfl dX7_word_113 (by omega) (by omega) ?_
      exact x_iret hx hb hr hlocks dX7_word_114 rfl (post := fun (r : Int32) (_ : Unit) => r = (nI (lo f))) (w1 := fun (_ : Unit) => [(rr, eMod ad len kp uo tm em pc0), (ad 7, eArr cI 4 wma), (ad 8, eArr cI 32 be), (ad 9, eArr cI 32 va), (ad 10, eArr cI 32 lo)]) () rfl hK hP hD hS
    · exact False.elim (by omega)
  · exact False.elim (by omega)
