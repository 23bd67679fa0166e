def rvM (p : Nat → Bool) : Nat → Nat × Int
  | 0 => (0, -4)
  | m + 1 => if p (40 - m) then ((rvM p m).1 + 1, (40 - (m : Int))) else rvM p m
theorem rvM_t {p : Nat → Bool} {m : Nat} (h : p (40 - m) = true) : rvM p (m + 1) = ((rvM p m).1 + 1, (40 - (m : Int))) := if_pos h
theorem rvM_f {p : Nat → Bool} {m : Nat} (h : p (40 - m) = false) : rvM p (m + 1) = rvM p m := if_neg (by rw [h]; decide)
theorem rvM_bd (p : Nat → Bool) (m : Nat) (hm : m ≤ 41) : (rvM p m).1 ≤ m ∧ -4 ≤ (rvM p m).2 ∧ (rvM p m).2 ≤ 40 := by
  induction m with
  | zero => exact ⟨Nat.le_refl 0, by show (-4 : Int) ≤ -4; omega, by show (-4 : Int) ≤ 40; omega⟩
  | succ x ih =>
    have ih := ih (by omega)
    cases h : p (40 - x) with
    | true => rw [rvM_t h]; dsimp only; omega
    | false => rw [rvM_f h]; omega

set_option maxRecDepth 100000 in
set_option maxHeartbeats 4000000 in
theorem c_X7_stood_bad (l : Launch) (D : va_G) (cI cC : ClassId) (rr : Nat) (ad : Nat → Nat) (len : Nat) (kp : Nat) (uo : Nat) (tm : Nat) (em : Nat) (pc0 : Nat) (z : Int) (hz : -2147483648 ≤ z ∧ z < 2147483648) (hbad : (z < 0 ∨ 1 < z)) : mtI l D cI cC yX7_stood wsX7_stood ({ frames := 1, cells := 0, slots := 0, locals := 25 }) [.ref rr, .int (iI z)] [(rr, eMod ad len kp uo tm em pc0)] (fun (r : Int32) (_ : Unit) => r = (iI (-1))) (fun (_ : Unit) => [(rr, eMod ad len kp uo tm em pc0)]) := by
  refine mtI_of (cc := cX7_stood) (maxL := 6) (ret := (some .int)) (by decide) rfl rfl ?_
  intro p e s m below meth c A hx hb hml hr hts hown hlocks hN hA hK hP hD hS ls hl
  have hown : s.vm.findClass RX7 = some m.cls := hown
  have hl : lv_has ls 6 [(0, .ref rr), (1, .int (iI z))] := hl
  obtain ⟨H, hHe⟩ : ∃ H, H = s.heap := ⟨_, rfl⟩
  rw [← hHe] at hP ⊢
  have hS : va_S A s.heap H [] := by rw [hHe]; exact va_S.rf
  refine lv_iload_n hx hb dX7_stood_0 rfl (lv_at hl 1 rfl) ?_
  refine z_i2l hx hb dX7_stood_1 (by omega) ?_
  refine lv_lconst (v := lN 0) hx hb dX7_stood_2 rfl ?_
  refine lv_lconst (v := lN 1) hx hb dX7_stood_3 rfl ?_
  refine k_S (As := [.long (lI z), .long (lI (((0 : Nat) : Int))), .long (lI (((1 : Nat) : Int)))]) (wr := [(rr, eMod ad len kp uo tm em pc0)]) ⟨hx, hb, hml, hown, hts⟩ (c_X7_in l D cI cC z (((0 : Nat) : Int)) (((1 : Nat) : Int)) (by omega) (by omega) (by omega)) (cwS 3 hts gX7_stood_X7_in rfl rfl rfl (by decide +kernel) ⟨Nat.le_of_ble_eq_true rfl, Nat.le_of_ble_eq_true rfl⟩) rfl hl.1 (by simp only [nI_iI, lN_lI]; rfl) (Nat.le_of_ble_eq_true rfl) dX7_stood_4 ⟨Nat.zero_le _, Nat.zero_le _⟩ hN hK hP hD hS hA [] [0] rfl rfl ⟨rfl, rfl, by decide⟩ (fun r1 u H locs w2 hP hD hS => ?_)
  obtain ⟨rfl, h3, h4⟩ | ⟨rfl, h5⟩ : (r1 = (nI 1) ∧ (((0 : Nat) : Int)) ≤ z ∧ z ≤ (((1 : Nat) : Int))) ∨ (r1 = (nI 0) ∧ (z < (((0 : Nat) : Int)) ∨ (((1 : Nat) : Int)) < z)) := w2
  · refine x_if_ne (tgt := 12) hx hb dX7_stood_7 (by decide) (by omega) (fun h6 => ?_) (fun h6 => False.elim (by omega))
    exact False.elim (by omega)
  · refine x_if_ne (tgt := 12) hx hb dX7_stood_7 (by decide) (by omega) (fun h7 => False.elim (by omega)) (fun h7 => ?_)
    refine lv_iconst (v := (iI (-1))) hx hb dX7_stood_10 (by decide) ?_
    exact x_iret hx hb hr hlocks dX7_stood_11 rfl (post := fun (r : Int32) (_ : Unit) => r = (iI (-1))) (w1 := fun (_ : Unit) => [(rr, eMod ad len kp uo tm em pc0)]) () rfl hK hP hD hS

set_option maxRecDepth 100000 in
set_option maxHeartbeats 4000000 in
theorem c_X7_stood_0 (l : Launch) (D : va_G) (cI cC : ClassId) (rr : Nat) (ad : Nat → Nat) (len : Nat) (kp : Nat) (uo : Nat) (tm : Nat) (em : Nat) (pc0 : Nat) (fm : Nat → Nat) (pq : Nat → Nat) (dq : Nat → Nat) (kq : Nat → Nat) (ai : Nat → Nat) (sna : Nat → Nat) (wma : Nat → Nat) (be : Nat → Nat) (va : Nat → Nat) (lo : Nat → Nat) (ea : Nat → Nat) (eb : Nat → Nat) (eh : Nat → Nat) (lg : Nat → Nat) (vg : Nat → Nat) (cl : Nat → Nat) (hrc : relC pq dq kq cl (fm 0)) (hok : okC cl (fm 0)) (hfm : fm 0 ≤ 4 ∧ ai 0 ≤ 99 ∧ sna 0 < 2147483648) (wd : Nat → Nat) (hrd : relD be va lo wd (wma 0)) (hokd : okD wd (wma 0)) (hnw : wma 0 ≤ 8) (eg : Nat → Nat) (hre : relE ea eb eh eg em) (hem : em ≤ 9) (hoe : ∀ i, i < em → eg (3 * i + 0) ≤ 40 ∧ eg (3 * i + 1) ≤ 149 ∧ eg (3 * i + 2) ≤ 8) : mtI l D cI cC yX7_stood wsX7_stood ({ frames := 5, cells := 0, slots := 0, locals := 120 }) [.ref rr, .int (nI 0)] [(rr, eMod ad len kp uo tm em pc0), (ad 2, eArr cI 2 fm), (ad 3, eArr cI 8 pq), (ad 4, eArr cI 8 dq), (ad 5, eArr cI 8 kq), (ad 6, eArr cI 2 ai), (ad 13, eArr cI 4 sna), (ad 7, eArr cI 4 wma), (ad 8, eArr cI 32 be), (ad 9, eArr cI 32 va), (ad 10, eArr cI 32 lo), (ad 16, eArr cI 9 ea), (ad 17, eArr cI 9 eb), (ad 18, eArr cI 9 eh), (ad 20, eArr cI 150 lg), (ad 21, eArr cI 150 vg)] (fun (r : Int32) ((lg', vg') : (Nat → Nat) × (Nat → Nat)) => r = (nI ((rvM (fun x => asM cl (fm 0) (ai 0) (sna 0) wd (wma 0) eg em x) 41).1))) (fun ((lg', vg') : (Nat → Nat) × (Nat → Nat)) => [(rr, eMod ad len kp uo tm em pc0), (ad 2, eArr cI 2 fm), (ad 3, eArr cI 8 pq), (ad 4, eArr cI 8 dq), (ad 5, eArr cI 8 kq), (ad 6, eArr cI 2 ai), (ad 13, eArr cI 4 sna), (ad 7, eArr cI 4 wma), (ad 8, eArr cI 32 be), (ad 9, eArr cI 32 va), (ad 10, eArr cI 32 lo), (ad 16, eArr cI 9 ea), (ad 17, eArr cI 9 eb), (ad 18, eArr cI 9 eh), (ad 20, eArr cI 150 lg'), (ad 21, eArr cI 150 vg')]) := by
  refine mtI_of (cc := cX7_stood) (maxL := 6) (ret := (some .int)) (by decide) rfl rfl ?_
  intro p e s m below meth c A hx hb hml hr hts hown hlocks hN hA hK hP hD hS ls hl
  have hown : s.vm.findClass RX7 = some m.cls := hown
  have hl : lv_has ls 6 [(0, .ref rr), (1, .int (nI 0))] := hl
  obtain ⟨H, hHe⟩ : ∃ H, H = s.heap := ⟨_, rfl⟩
  rw [← hHe] at hP ⊢
  have hS : va_S A s.heap H [] := by rw [hHe]; exact va_S.rf
  refine lv_iload_n hx hb dX7_stood_0 rfl (lv_at hl 1 rfl) ?_
  refine n_i2l hx hb dX7_stood_1 (by omega) ?_
  refine lv_lconst (v := lN 0) hx hb dX7_stood_2 rfl ?_
  refine lv_lconst (v := lN 1) hx hb dX7_stood_3 rfl ?_
  refine k_S (As := [.long (lI (((0 : Nat) : Int))), .long (lI (((0 : Nat) : Int))), .long (lI (((1 : Nat) : Int)))]) (wr := [(rr, eMod ad len kp uo tm em pc0), (ad 2, eArr cI 2 fm), (ad 3, eArr cI 8 pq), (ad 4, eArr cI 8 dq), (ad 5, eArr cI 8 kq), (ad 6, eArr cI 2 ai), (ad 13, eArr cI 4 sna), (ad 7, eArr cI 4 wma), (ad 8, eArr cI 32 be), (ad 9, eArr cI 32 va), (ad 10, eArr cI 32 lo), (ad 16, eArr cI 9 ea), (ad 17, eArr cI 9 eb), (ad 18, eArr cI 9 eh), (ad 20, eArr cI 150 lg), (ad 21, eArr cI 150 vg)]) ⟨hx, hb, hml, hown, hts⟩ (c_X7_in l D cI cC (((0 : Nat) : Int)) (((0 : Nat) : Int)) (((1 : Nat) : Int)) (by omega) (by omega) (by omega)) (cwS 3 hts gX7_stood_X7_in rfl rfl rfl (by decide +kernel) ⟨Nat.le_of_ble_eq_true rfl, Nat.le_of_ble_eq_true rfl⟩) rfl hl.1 (by simp only [nI_iI, lN_lI]; rfl) (Nat.le_of_ble_eq_true rfl) dX7_stood_4 ⟨Nat.zero_le _, Nat.zero_le _⟩ hN hK hP hD hS hA [] [0, 1, 2, 3, 4, 5, 6, 7, 8, 9, 10, 11, 12, 13, 14, 15] rfl rfl ⟨rfl, rfl, by decide⟩ (fun r1 u H locs w2 hP hD hS => ?_)
  obtain ⟨rfl, h3, h4⟩ | ⟨rfl, h5⟩ : (r1 = (nI 1) ∧ (((0 : Nat) : Int)) ≤ (((0 : Nat) : Int)) ∧ (((0 : Nat) : Int)) ≤ (((1 : Nat) : Int))) ∨ (r1 = (nI 0) ∧ ((((0 : Nat) : Int)) < (((0 : Nat) : Int)) ∨ (((1 : Nat) : Int)) < (((0 : Nat) : Int)))) := w2
  · refine x_if_ne (tgt := 12) hx hb dX7_stood_7 (by decide) (by omega) (fun h6 => ?_) (fun h6 => False.elim (by omega))
    refine lv_iconst (v := (nI 0)) hx hb dX7_stood_12 (by decide) ?_
    refine lv_istore_n (lv' := [(2, .int (nI 0)), (0, .ref rr), (1, .int (nI 0))]) hx hb dX7_stood_13 rfl hl (by decide) rfl (fun ls hl => ?_)
    refine lv_bipush (v := (iI (-4))) hx hb dX7_stood_14 (by decide) ?_
    refine lv_istore_n (lv' := [(3, .int (iI (-4))), (2, .int (nI 0)), (0, .ref rr), (1, .int (nI 0))]) hx hb dX7_stood_16 rfl hl (by decide) rfl (fun ls hl => ?_)
    refine lv_bipush (v := (nI 40)) hx hb dX7_stood_17 (by decide) ?_
    refine lv_istore (lv' := [(4, .int (nI 40)), (3, .int (iI (-4))), (2, .int (nI 0)), (0, .ref rr), (1, .int (nI 0))]) hx hb dX7_stood_19 hl (by decide) rfl (fun ls hl => ?_)
    have loop21 : ∀ (nn21 : Nat) (mm : Nat) (lg' : Nat → Nat) (vg' : Nat → Nat), 41 - mm < nn21 → (mm ≤ 41) → ∀ (H : Heap) (locs : List Loc), va_P D vwCl [(rr, eMod ad len kp uo tm em pc0), (ad 2, eArr cI 2 fm), (ad 3, eArr cI 8 pq), (ad 4, eArr cI 8 dq), (ad 5, eArr cI 8 kq), (ad 6, eArr cI 2 ai), (ad 13, eArr cI 4 sna), (ad 7, eArr cI 4 wma), (ad 8, eArr cI 32 be), (ad 9, eArr cI 32 va), (ad 10, eArr cI 32 lo), (ad 16, eArr cI 9 ea), (ad 17, eArr cI 9 eb), (ad 18, eArr cI 9 eh), (ad 20, eArr cI 150 lg'), (ad 21, eArr cI 150 vg')] H → va_D A [(rr, eMod ad len kp uo tm em pc0), (ad 2, eArr cI 2 fm), (ad 3, eArr cI 8 pq), (ad 4, eArr cI 8 dq), (ad 5, eArr cI 8 kq), (ad 6, eArr cI 2 ai), (ad 13, eArr cI 4 sna), (ad 7, eArr cI 4 wma), (ad 8, eArr cI 32 be), (ad 9, eArr cI 32 va), (ad 10, eArr cI 32 lo), (ad 16, eArr cI 9 ea), (ad 17, eArr cI 9 eb), (ad 18, eArr cI 9 eh), (ad 20, eArr cI 150 lg'), (ad 21, eArr cI 150 vg')] → va_S A s.heap H locs → ∀ ls : Array Slot, lv_has ls 6 [(4, .int (iI (40 - ((mm : Nat) : Int)))), (2, .int (nI ((rvM (fun x => asM cl (fm 0) (ai 0) (sna 0) wd (wma 0) eg em x) mm).1))), (3, .int (iI ((rvM (fun x => asM cl (fm 0) (ai 0) (sna 0) wd (wma 0) eg em x) mm).2))), (0, .ref rr), (1, .int (nI 0))] → W p l e (headSpec wsX7_stood ({ frames := 5, cells := 0, slots := 0, locals := 120 })).room s m ([.ref rr, .int (nI 0)] : List Value).toArray below meth c H locs 0 0 (MQ below (va_Qi (fun (r : Int32) ((lg', vg') : (Nat → Nat) × (Nat → Nat)) => r = (nI ((rvM (fun x => asM cl (fm 0) (ai 0) (sna 0) wd (wma 0) eg em x) 41).1))) (ctB D cI cC (fun ((lg', vg') : (Nat → Nat) × (Nat → Nat)) => [(rr, eMod ad len kp uo tm em pc0), (ad 2, eArr cI 2 fm), (ad 3, eArr cI 8 pq), (ad 4, eArr cI 8 dq), (ad 5, eArr cI 8 kq), (ad 6, eArr cI 2 ai), (ad 13, eArr cI 4 sna), (ad 7, eArr cI 4 wma), (ad 8, eArr cI 32 be), (ad 9, eArr cI 32 va), (ad 10, eArr cI 32 lo), (ad 16, eArr cI 9 ea), (ad 17, eArr cI 9 eb), (ad 18, eArr cI 9 eh), (ad 20, eArr cI 150 lg'), (ad 21, eArr cI 150 vg')]) A) A) ([.ref rr, .int (nI 0)] : List Value).toArray s 0 0 A) (F0 m 21 ls []) := by
      intro nn21
      induction nn21 with
      | zero =>
        intro mm lg' vg' hm7
        exact absurd hm7 (Nat.not_lt_zero _)
      | succ nn21 ih21 =>
        intro mm lg' vg' hm7 hi8 H locs hP hD hS ls hl
        refine lv_iload hx hb dX7_stood_21 (lv_at hl 0 rfl) ?_
        refine z_if_lt (tgt := 65) hx hb dX7_stood_23 (by decide) (by omega) (fun h9 => ?_) (fun h9 => ?_)
        · obtain rfl : mm = 41 := by omega
          refine lv_iload_n hx hb dX7_stood_65 rfl (lv_at hl 4 rfl) ?_
          refine x_if_ne (tgt := 73) hx hb dX7_stood_66 (by decide) (by omega) (fun h10 => False.elim (by omega)) (fun h10 => ?_)
          refine lv_iload_n hx hb dX7_stood_69 rfl (lv_at hl 1 rfl) ?_
          refine lv_goto (tgt := 74) hx hb dX7_stood_70 (by decide) ?_
          exact x_iret hx hb hr hlocks dX7_stood_74 rfl (post := fun (r : Int32) ((lg', vg') : (Nat → Nat) × (Nat → Nat)) => r = (nI ((rvM (fun x => asM cl (fm 0) (ai 0) (sna 0) wd (wma 0) eg em x) 41).1))) (w1 := fun ((lg', vg') : (Nat → Nat) × (Nat → Nat)) => [(rr, eMod ad len kp uo tm em pc0), (ad 2, eArr cI 2 fm), (ad 3, eArr cI 8 pq), (ad 4, eArr cI 8 dq), (ad 5, eArr cI 8 kq), (ad 6, eArr cI 2 ai), (ad 13, eArr cI 4 sna), (ad 7, eArr cI 4 wma), (ad 8, eArr cI 32 be), (ad 9, eArr cI 32 va), (ad 10, eArr cI 32 lo), (ad 16, eArr cI 9 ea), (ad 17, eArr cI 9 eb), (ad 18, eArr cI 9 eh), (ad 20, eArr cI 150 lg'), (ad 21, eArr cI 150 vg')]) (lg', vg') rfl hK hP hD hS
        · rw [show (iI (40 - ((mm : Nat) : Int))) = (nI (40 - mm)) from by rw [nI_iI]; exact congrArg iI (by omega)] at hl
          have hbd := rvM_bd (fun x => asM cl (fm 0) (ai 0) (sna 0) wd (wma 0) eg em x) mm (by omega)
          refine lv_aload_n hx hb dX7_stood_26 rfl (lv_at hl 3 rfl) ?_
          refine lv_iload hx hb dX7_stood_27 (lv_at hl 0 rfl) ?_
          refine k_V (q := (RX7, TX7, 28)) (ci := 7) (As := [.int (nI (40 - mm))]) (wr := []) ⟨hx, hb, hml, hown, hts⟩ (c_X7_isHeardSo l D cI cC rr ad len kp uo tm em pc0 fm pq dq kq ai sna wma be va lo ea eb eh lg' vg' cl hrc hok (by omega) wd hrd hokd (by omega) eg hre (by omega) (by omega) (40 - mm) (by omega)) (cwV 1 hts gX7_stood_X7_isHeardSo rfl rfl rfl (by decide +kernel) ⟨Nat.le_of_ble_eq_true rfl, Nat.le_of_ble_eq_true rfl⟩) rfl hl.1 rfl (Nat.le_of_ble_eq_true rfl) dX7_stood_29 ⟨Nat.zero_le _, Nat.zero_le _⟩ hN hK hP hD hS hA rfl (q0 := 0) rfl [0, 1, 2, 3, 4, 5, 6, 7, 8, 9, 10, 11, 12, 13, 14, 15] [] rfl rfl ⟨rfl, rfl, by decide⟩ (fun r11 u H locs w14 hP hD hS => ?_)
          obtain ⟨lg'12, vg'13⟩ := u
          obtain ⟨rfl, h15⟩ | ⟨rfl, h16⟩ : (r11 = (nI 1) ∧ asM cl (fm 0) (ai 0) (sna 0) wd (wma 0) eg em (40 - mm) = true) ∨ (r11 = (nI 0) ∧ asM cl (fm 0) (ai 0) (sna 0) wd (wma 0) eg em (40 - mm) = false) := w14
          · refine lv_istore (lv' := [(5, .int (nI 1)), (4, .int (nI (40 - mm))), (2, .int (nI ((rvM (fun x => asM cl (fm 0) (ai 0) (sna 0) wd (wma 0) eg em x) mm).1))), (3, .int (iI ((rvM (fun x => asM cl (fm 0) (ai 0) (sna 0) wd (wma 0) eg em x) mm).2))), (0, .ref rr), (1, .int (nI 0))]) hx hb dX7_stood_32 hl (by decide) rfl (fun ls hl => ?_)
            refine lv_iload_n hx hb dX7_stood_34 rfl (lv_at hl 2 rfl) ?_
            refine lv_iload hx hb dX7_stood_35 (lv_at hl 0 rfl) ?_
            refine x_if_eq (tgt := 44) hx hb dX7_stood_37 (by decide) (by omega) (fun h17 => False.elim (by omega)) (fun h17 => ?_)
            refine lv_iconst (v := (nI 1)) hx hb dX7_stood_40 (by decide) ?_
            refine lv_goto (tgt := 45) hx hb dX7_stood_41 (by decide) ?_
            refine x_iadd hx hb dX7_stood_45 ?_
            refine lv_istore_n (lv' := [(2, .int (nI ((rvM (fun x => asM cl (fm 0) (ai 0) (sna 0) wd (wma 0) eg em x) mm).1 + 1))), (5, .int (nI 1)), (4, .int (nI (40 - mm))), (3, .int (iI ((rvM (fun x => asM cl (fm 0) (ai 0) (sna 0) wd (wma 0) eg em x) mm).2))), (0, .ref rr), (1, .int (nI 0))]) hx hb dX7_stood_46 rfl hl (by decide) rfl (fun ls hl => ?_)
            refine lv_iload hx hb dX7_stood_47 (lv_at hl 1 rfl) ?_
            refine x_if_eq (tgt := 57) hx hb dX7_stood_49 (by decide) (by omega) (fun h18 => False.elim (by omega)) (fun h18 => ?_)
            refine lv_iload hx hb dX7_stood_52 (lv_at hl 2 rfl) ?_
            refine lv_goto (tgt := 58) hx hb dX7_stood_54 (by decide) ?_
            refine lv_istore_n (lv' := [(3, .int (nI (40 - mm))), (2, .int (nI ((rvM (fun x => asM cl (fm 0) (ai 0) (sna 0) wd (wma 0) eg em x) mm).1 + 1))), (5, .int (nI 1)), (4, .int (nI (40 - mm))), (0, .ref rr), (1, .int (nI 0))]) hx hb dX7_stood_58 rfl hl (by decide) rfl (fun ls hl => ?_)
            rw [show (nI (40 - mm)) = (iI (40 - ((mm : Nat) : Int))) from by rw [nI_iI]; exact congrArg iI (by omega)] at hl
            refine lv_iinc (v := (iI (40 - ((mm : Nat) : Int) + (-1)))) (lv' := [(4, .int (iI (40 - ((mm : Nat) : Int) + (-1)))), (3, .int (iI (40 - ((mm : Nat) : Int)))), (2, .int (nI ((rvM (fun x => asM cl (fm 0) (ai 0) (sna 0) wd (wma 0) eg em x) mm).1 + 1))), (5, .int (nI 1)), (0, .ref rr), (1, .int (nI 0))]) hx hb dX7_stood_59 hl (k := 3) rfl (iI_add _ (-1)) (by decide) rfl (fun ls hl => ?_)
            refine lv_goto (tgt := 21) hx hb dX7_stood_62 (by decide) ?_
            rw [show (iI (40 - ((mm : Nat) : Int) + (-1))) = (iI (40 - ((mm + 1 : Nat) : Int))) from congrArg iI (by omega)] at hl
            have hl : lv_has ls 6 [(4, .int (iI (40 - ((mm + 1 : Nat) : Int)))), (2, .int (nI ((rvM (fun x => asM cl (fm 0) (ai 0) (sna 0) wd (wma 0) eg em x) (mm + 1)).1))), (3, .int (iI ((rvM (fun x => asM cl (fm 0) (ai 0) (sna 0) wd (wma 0) eg em x) (mm + 1)).2))), (0, .ref rr), (1, .int (nI 0))] := by have h := hl; have e := rvM_t (p := (fun x => asM cl (fm 0) (ai 0) (sna 0) wd (wma 0) eg em x)) (m := mm) h15; rw [e]; have h := lv_sub h [0, 2, 1, 4, 5] rfl; simp only [nI_iI] at h ⊢; exact h
            exact ih21 (mm + 1) lg'12 vg'13 (by omega) (by omega) _ _ (hP.sub [0, 1, 2, 3, 4, 5, 6, 7, 8, 9, 10, 11, 12, 13, 14, 15] rfl) (hD.sub [0, 1, 2, 3, 4, 5, 6, 7, 8, 9, 10, 11, 12, 13, 14, 15] rfl rfl) hS _ (lv_sub hl [0, 1, 2, 3, 4] rfl)
          · refine lv_istore (lv' := [(5, .int (nI 0)), (4, .int (nI (40 - mm))), (2, .int (nI ((rvM (fun x => asM cl (fm 0) (ai 0) (sna 0) wd (wma 0) eg em x) mm).1))), (3, .int (iI ((rvM (fun x => asM cl (fm 0) (ai 0) (sna 0) wd (wma 0) eg em x) mm).2))), (0, .ref rr), (1, .int (nI 0))]) hx hb dX7_stood_32 hl (by decide) rfl (fun ls hl => ?_)
            refine lv_iload_n hx hb dX7_stood_34 rfl (lv_at hl 2 rfl) ?_
            refine lv_iload hx hb dX7_stood_35 (lv_at hl 0 rfl) ?_
            refine x_if_eq (tgt := 44) hx hb dX7_stood_37 (by decide) (by omega) (fun h19 => ?_) (fun h19 => False.elim (by omega))
            refine lv_iconst (v := (nI 0)) hx hb dX7_stood_44 (by decide) ?_
            refine x_iadd hx hb dX7_stood_45 ?_
            refine lv_istore_n (lv' := [(2, .int (nI ((rvM (fun x => asM cl (fm 0) (ai 0) (sna 0) wd (wma 0) eg em x) mm).1 + 0))), (5, .int (nI 0)), (4, .int (nI (40 - mm))), (3, .int (iI ((rvM (fun x => asM cl (fm 0) (ai 0) (sna 0) wd (wma 0) eg em x) mm).2))), (0, .ref rr), (1, .int (nI 0))]) hx hb dX7_stood_46 rfl hl (by decide) rfl (fun ls hl => ?_)
            refine lv_iload hx hb dX7_stood_47 (lv_at hl 1 rfl) ?_
            refine x_if_eq (tgt := 57) hx hb dX7_stood_49 (by decide) (by omega) (fun h20 => ?_) (fun h20 => False.elim (by omega))
            refine lv_iload_n hx hb dX7_stood_57 rfl (lv_at hl 3 rfl) ?_
            refine lv_istore_n (lv' := [(3, .int (iI ((rvM (fun x => asM cl (fm 0) (ai 0) (sna 0) wd (wma 0) eg em x) mm).2))), (2, .int (nI ((rvM (fun x => asM cl (fm 0) (ai 0) (sna 0) wd (wma 0) eg em x) mm).1 + 0))), (5, .int (nI 0)), (4, .int (nI (40 - mm))), (0, .ref rr), (1, .int (nI 0))]) hx hb dX7_stood_58 rfl hl (by decide) rfl (fun ls hl => ?_)
            rw [show (nI (40 - mm)) = (iI (40 - ((mm : Nat) : Int))) from by rw [nI_iI]; exact congrArg iI (by omega)] at hl
            refine lv_iinc (v := (iI (40 - ((mm : Nat) : Int) + (-1)))) (lv' := [(4, .int (iI (40 - ((mm : Nat) : Int) + (-1)))), (3, .int (iI ((rvM (fun x => asM cl (fm 0) (ai 0) (sna 0) wd (wma 0) eg em x) mm).2))), (2, .int (nI ((rvM (fun x => asM cl (fm 0) (ai 0) (sna 0) wd (wma 0) eg em x) mm).1 + 0))), (5, .int (nI 0)), (0, .ref rr), (1, .int (nI 0))]) hx hb dX7_stood_59 hl (k := 3) rfl (iI_add _ (-1)) (by decide) rfl (fun ls hl => ?_)
            refine lv_goto (tgt := 21) hx hb dX7_stood_62 (by decide) ?_
            rw [show (iI (40 - ((mm : Nat) : Int) + (-1))) = (iI (40 - ((mm + 1 : Nat) : Int))) from congrArg iI (by omega)] at hl
            have hl : lv_has ls 6 [(4, .int (iI (40 - ((mm + 1 : Nat) : Int)))), (2, .int (nI ((rvM (fun x => asM cl (fm 0) (ai 0) (sna 0) wd (wma 0) eg em x) (mm + 1)).1))), (3, .int (iI ((rvM (fun x => asM cl (fm 0) (ai 0) (sna 0) wd (wma 0) eg em x) (mm + 1)).2))), (0, .ref rr), (1, .int (nI 0))] := by have h := hl; have e := rvM_f (p := (fun x => asM cl (fm 0) (ai 0) (sna 0) wd (wma 0) eg em x)) (m := mm) h16; rw [e]; have h := lv_sub h [0, 2, 1, 4, 5] rfl; simp only [nI_iI] at h ⊢; exact h
            exact ih21 (mm + 1) lg'12 vg'13 (by omega) (by omega) _ _ (hP.sub [0, 1, 2, 3, 4, 5, 6, 7, 8, 9, 10, 11, 12, 13, 14, 15] rfl) (hD.sub [0, 1, 2, 3, 4, 5, 6, 7, 8, 9, 10, 11, 12, 13, 14, 15] rfl rfl) hS _ (lv_sub hl [0, 1, 2, 3, 4] rfl)
    rw [show (nI 40) = (iI (40 - ((0 : Nat) : Int))) from by rw [nI_iI]; exact congrArg iI (by omega)] at hl
    exact loop21 _ 0 lg vg (Nat.lt_succ_self _) (by omega) _ _ (hP.sub [0, 1, 2, 3, 4, 5, 6, 7, 8, 9, 10, 11, 12, 13, 14, 15] rfl) (hD.sub [0, 1, 2, 3, 4, 5, 6, 7, 8, 9, 10, 11, 12, 13, 14, 15] rfl rfl) hS _ (lv_sub hl [0, 2, 1, 3, 4] rfl)
  · exact False.elim (by omega)

set_option maxRecDepth 100000 in
set_option maxHeartbeats 4000000 in
theorem c_X7_stood_1 (l : Launch) (D : va_G) (cI cC : ClassId) (rr : Nat) (ad : Nat → Nat) (len : Nat) (kp : Nat) (uo : Nat) (tm : Nat) (em : Nat) (pc0 : Nat) (fm : Nat → Nat) (pq : Nat → Nat) (dq : Nat → Nat) (kq : Nat → Nat) (ai : Nat → Nat) (sna : Nat → Nat) (wma : Nat → Nat) (be : Nat → Nat) (va : Nat → Nat) (lo : Nat → Nat) (ea : Nat → Nat) (eb : Nat → Nat) (eh : Nat → Nat) (lg : Nat → Nat) (vg : Nat → Nat) (cl : Nat → Nat) (hrc : relC pq dq kq cl (fm 0)) (hok : okC cl (fm 0)) (hfm : fm 0 ≤ 4 ∧ ai 0 ≤ 99 ∧ sna 0 < 2147483648) (wd : Nat → Nat) (hrd : relD be va lo wd (wma 0)) (hokd : okD wd (wma 0)) (hnw : wma 0 ≤ 8) (eg : Nat → Nat) (hre : relE ea eb eh eg em) (hem : em ≤ 9) (hoe : ∀ i, i < em → eg (3 * i + 0) ≤ 40 ∧ eg (3 * i + 1) ≤ 149 ∧ eg (3 * i + 2) ≤ 8) : mtI l D cI cC yX7_stood wsX7_stood ({ frames := 5, cells := 0, slots := 0, locals := 120 }) [.ref rr, .int (nI 1)] [(rr, eMod ad len kp uo tm em pc0), (ad 2, eArr cI 2 fm), (ad 3, eArr cI 8 pq), (ad 4, eArr cI 8 dq), (ad 5, eArr cI 8 kq), (ad 6, eArr cI 2 ai), (ad 13, eArr cI 4 sna), (ad 7, eArr cI 4 wma), (ad 8, eArr cI 32 be), (ad 9, eArr cI 32 va), (ad 10, eArr cI 32 lo), (ad 16, eArr cI 9 ea), (ad 17, eArr cI 9 eb), (ad 18, eArr cI 9 eh), (ad 20, eArr cI 150 lg), (ad 21, eArr cI 150 vg)] (fun (r : Int32) ((lg', vg') : (Nat → Nat) × (Nat → Nat)) => r = (iI ((rvM (fun x => asM cl (fm 0) (ai 0) (sna 0) wd (wma 0) eg em x) 41).2))) (fun ((lg', vg') : (Nat → Nat) × (Nat → Nat)) => [(rr, eMod ad len kp uo tm em pc0), (ad 2, eArr cI 2 fm), (ad 3, eArr cI 8 pq), (ad 4, eArr cI 8 dq), (ad 5, eArr cI 8 kq), (ad 6, eArr cI 2 ai), (ad 13, eArr cI 4 sna), (ad 7, eArr cI 4 wma), (ad 8, eArr cI 32 be), (ad 9, eArr cI 32 va), (ad 10, eArr cI 32 lo), (ad 16, eArr cI 9 ea), (ad 17, eArr cI 9 eb), (ad 18, eArr cI 9 eh), (ad 20, eArr cI 150 lg'), (ad 21, eArr cI 150 vg')]) := by
  refine mtI_of (cc := cX7_stood) (maxL := 6) (ret := (some .int)) (by decide) rfl rfl ?_
  intro p e s m below meth c A hx hb hml hr hts hown hlocks hN hA hK hP hD hS ls hl
  have hown : s.vm.findClass RX7 = some m.cls := hown
  have hl : lv_has ls 6 [(0, .ref rr), (1, .int (nI 1))] := hl
  obtain ⟨H, hHe⟩ : ∃ H, H = s.heap := ⟨_, rfl⟩
  rw [← hHe] at hP ⊢
  have hS : va_S A s.heap H [] := by rw [hHe]; exact va_S.rf
  refine lv_iload_n hx hb dX7_stood_0 rfl (lv_at hl 1 rfl) ?_
  refine n_i2l hx hb dX7_stood_1 (by omega) ?_
  refine lv_lconst (v := lN 0) hx hb dX7_stood_2 rfl ?_
  refine lv_lconst (v := lN 1) hx hb dX7_stood_3 rfl ?_
  refine k_S (As := [.long (lI (((1 : Nat) : Int))), .long (lI (((0 : Nat) : Int))), .long (lI (((1 : Nat) : Int)))]) (wr := [(rr, eMod ad len kp uo tm em pc0), (ad 2, eArr cI 2 fm), (ad 3, eArr cI 8 pq), (ad 4, eArr cI 8 dq), (ad 5, eArr cI 8 kq), (ad 6, eArr cI 2 ai), (ad 13, eArr cI 4 sna), (ad 7, eArr cI 4 wma), (ad 8, eArr cI 32 be), (ad 9, eArr cI 32 va), (ad 10, eArr cI 32 lo), (ad 16, eArr cI 9 ea), (ad 17, eArr cI 9 eb), (ad 18, eArr cI 9 eh), (ad 20, eArr cI 150 lg), (ad 21, eArr cI 150 vg)]) ⟨hx, hb, hml, hown, hts⟩ (c_X7_in l D cI cC (((1 : Nat) : Int)) (((0 : Nat) : Int)) (((1 : Nat) : Int)) (by omega) (by omega) (by omega)) (cwS 3 hts gX7_stood_X7_in rfl rfl rfl (by decide +kernel) ⟨Nat.le_of_ble_eq_true rfl, Nat.le_of_ble_eq_true rfl⟩) rfl hl.1 (by simp only [nI_iI, lN_lI]; rfl) (Nat.le_of_ble_eq_true rfl) dX7_stood_4 ⟨Nat.zero_le _, Nat.zero_le _⟩ hN hK hP hD hS hA [] [0, 1, 2, 3, 4, 5, 6, 7, 8, 9, 10, 11, 12, 13, 14, 15] rfl rfl ⟨rfl, rfl, by decide⟩ (fun r1 u H locs w2 hP hD hS => ?_)
  obtain ⟨rfl, h3, h4⟩ | ⟨rfl, h5⟩ : (r1 = (nI 1) ∧ (((0 : Nat) : Int)) ≤ (((1 : Nat) : Int)) ∧ (((1 : Nat) : Int)) ≤ (((1 : Nat) : Int))) ∨ (r1 = (nI 0) ∧ ((((1 : Nat) : Int)) < (((0 : Nat) : Int)) ∨ (((1 : Nat) : Int)) < (((1 : Nat) : Int)))) := w2
  · refine x_if_ne (tgt := 12) hx hb dX7_stood_7 (by decide) (by omega) (fun h6 => ?_) (fun h6 => False.elim (by omega))
    refine lv_iconst (v := (nI 0)) hx hb dX7_stood_12 (by decide) ?_
    refine lv_istore_n (lv' := [(2, .int (nI 0)), (0, .ref rr), (1, .int (nI 1))]) hx hb dX7_stood_13 rfl hl (by decide) rfl (fun ls hl => ?_)
    refine lv_bipush (v := (iI (-4))) hx hb dX7_stood_14 (by decide) ?_
    refine lv_istore_n (lv' := [(3, .int (iI (-4))), (2, .int (nI 0)), (0, .ref rr), (1, .int (nI 1))]) hx hb dX7_stood_16 rfl hl (by decide) rfl (fun ls hl => ?_)
    refine lv_bipush (v := (nI 40)) hx hb dX7_stood_17 (by decide) ?_
    refine lv_istore (lv' := [(4, .int (nI 40)), (3, .int (iI (-4))), (2, .int (nI 0)), (0, .ref rr), (1, .int (nI 1))]) hx hb dX7_stood_19 hl (by decide) rfl (fun ls hl => ?_)
    have loop21 : ∀ (nn21 : Nat) (mm : Nat) (lg' : Nat → Nat) (vg' : Nat → Nat), 41 - mm < nn21 → (mm ≤ 41) → ∀ (H : Heap) (locs : List Loc), va_P D vwCl [(rr, eMod ad len kp uo tm em pc0), (ad 2, eArr cI 2 fm), (ad 3, eArr cI 8 pq), (ad 4, eArr cI 8 dq), (ad 5, eArr cI 8 kq), (ad 6, eArr cI 2 ai), (ad 13, eArr cI 4 sna), (ad 7, eArr cI 4 wma), (ad 8, eArr cI 32 be), (ad 9, eArr cI 32 va), (ad 10, eArr cI 32 lo), (ad 16, eArr cI 9 ea), (ad 17, eArr cI 9 eb), (ad 18, eArr cI 9 eh), (ad 20, eArr cI 150 lg'), (ad 21, eArr cI 150 vg')] H → va_D A [(rr, eMod ad len kp uo tm em pc0), (ad 2, eArr cI 2 fm), (ad 3, eArr cI 8 pq), (ad 4, eArr cI 8 dq), (ad 5, eArr cI 8 kq), (ad 6, eArr cI 2 ai), (ad 13, eArr cI 4 sna), (ad 7, eArr cI 4 wma), (ad 8, eArr cI 32 be), (ad 9, eArr cI 32 va), (ad 10, eArr cI 32 lo), (ad 16, eArr cI 9 ea), (ad 17, eArr cI 9 eb), (ad 18, eArr cI 9 eh), (ad 20, eArr cI 150 lg'), (ad 21, eArr cI 150 vg')] → va_S A s.heap H locs → ∀ ls : Array Slot, lv_has ls 6 [(4, .int (iI (40 - ((mm : Nat) : Int)))), (2, .int (nI ((rvM (fun x => asM cl (fm 0) (ai 0) (sna 0) wd (wma 0) eg em x) mm).1))), (3, .int (iI ((rvM (fun x => asM cl (fm 0) (ai 0) (sna 0) wd (wma 0) eg em x) mm).2))), (0, .ref rr), (1, .int (nI 1))] → W p l e (headSpec wsX7_stood ({ frames := 5, cells := 0, slots := 0, locals := 120 })).room s m ([.ref rr, .int (nI 1)] : List Value).toArray below meth c H locs 0 0 (MQ below (va_Qi (fun (r : Int32) ((lg', vg') : (Nat → Nat) × (Nat → Nat)) => r = (iI ((rvM (fun x => asM cl (fm 0) (ai 0) (sna 0) wd (wma 0) eg em x) 41).2))) (ctB D cI cC (fun ((lg', vg') : (Nat → Nat) × (Nat → Nat)) => [(rr, eMod ad len kp uo tm em pc0), (ad 2, eArr cI 2 fm), (ad 3, eArr cI 8 pq), (ad 4, eArr cI 8 dq), (ad 5, eArr cI 8 kq), (ad 6, eArr cI 2 ai), (ad 13, eArr cI 4 sna), (ad 7, eArr cI 4 wma), (ad 8, eArr cI 32 be), (ad 9, eArr cI 32 va), (ad 10, eArr cI 32 lo), (ad 16, eArr cI 9 ea), (ad 17, eArr cI 9 eb), (ad 18, eArr cI 9 eh), (ad 20, eArr cI 150 lg'), (ad 21, eArr cI 150 vg')]) A) A) ([.ref rr, .int (nI 1)] : List Value).toArray s 0 0 A) (F0 m 21 ls []) := by
      intro nn21
      induction nn21 with
      | zero =>
        intro mm lg' vg' hm7
        exact absurd hm7 (Nat.not_lt_zero _)
      | succ nn21 ih21 =>
        intro mm lg' vg' hm7 hi8 H locs hP hD hS ls hl
        refine lv_iload hx hb dX7_stood_21 (lv_at hl 0 rfl) ?_
        refine z_if_lt (tgt := 65) hx hb dX7_stood_23 (by decide) (by omega) (fun h9 => ?_) (fun h9 => ?_)
        · obtain rfl : mm = 41 := by omega
          refine lv_iload_n hx hb dX7_stood_65 rfl (lv_at hl 4 rfl) ?_
          refine x_if_ne (tgt := 73) hx hb dX7_stood_66 (by decide) (by omega) (fun h10 => ?_) (fun h10 => False.elim (by omega))
          refine lv_iload_n hx hb dX7_stood_73 rfl (lv_at hl 2 rfl) ?_
          exact x_iret hx hb hr hlocks dX7_stood_74 rfl (post := fun (r : Int32) ((lg', vg') : (Nat → Nat) × (Nat → Nat)) => r = (iI ((rvM (fun x => asM cl (fm 0) (ai 0) (sna 0) wd (wma 0) eg em x) 41).2))) (w1 := fun ((lg', vg') : (Nat → Nat) × (Nat → Nat)) => [(rr, eMod ad len kp uo tm em pc0), (ad 2, eArr cI 2 fm), (ad 3, eArr cI 8 pq), (ad 4, eArr cI 8 dq), (ad 5, eArr cI 8 kq), (ad 6, eArr cI 2 ai), (ad 13, eArr cI 4 sna), (ad 7, eArr cI 4 wma), (ad 8, eArr cI 32 be), (ad 9, eArr cI 32 va), (ad 10, eArr cI 32 lo), (ad 16, eArr cI 9 ea), (ad 17, eArr cI 9 eb), (ad 18, eArr cI 9 eh), (ad 20, eArr cI 150 lg'), (ad 21, eArr cI 150 vg')]) (lg', vg') rfl hK hP hD hS
        · rw [show (iI (40 - ((mm : Nat) : Int))) = (nI (40 - mm)) from by rw [nI_iI]; exact congrArg iI (by omega)] at hl
          have hbd := rvM_bd (fun x => asM cl (fm 0) (ai 0) (sna 0) wd (wma 0) eg em x) mm (by omega)
          refine lv_aload_n hx hb dX7_stood_26 rfl (lv_at hl 3 rfl) ?_
          refine lv_iload hx hb dX7_stood_27 (lv_at hl 0 rfl) ?_
          refine k_V (q := (RX7, TX7, 28)) (ci := 7) (As := [.int (nI (40 - mm))]) (wr := []) ⟨hx, hb, hml, hown, hts⟩ (c_X7_isHeardSo l D cI cC rr ad len kp uo tm em pc0 fm pq dq kq ai sna wma be va lo ea eb eh lg' vg' cl hrc hok (by omega) wd hrd hokd (by omega) eg hre (by omega) (by omega) (40 - mm) (by omega)) (cwV 1 hts gX7_stood_X7_isHeardSo rfl rfl rfl (by decide +kernel) ⟨Nat.le_of_ble_eq_true rfl, Nat.le_of_ble_eq_true rfl⟩) rfl hl.1 rfl (Nat.le_of_ble_eq_true rfl) dX7_stood_29 ⟨Nat.zero_le _, Nat.zero_le _⟩ hN hK hP hD hS hA rfl (q0 := 0) rfl [0, 1, 2, 3, 4, 5, 6, 7, 8, 9, 10, 11, 12, 13, 14, 15] [] rfl rfl ⟨rfl, rfl, by decide⟩ (fun r11 u H locs w14 hP hD hS => ?_)
          obtain ⟨lg'12, vg'13⟩ := u
          obtain ⟨rfl, h15⟩ | ⟨rfl, h16⟩ : (r11 = (nI 1) ∧ asM cl (fm 0) (ai 0) (sna 0) wd (wma 0) eg em (40 - mm) = true) ∨ (r11 = (nI 0) ∧ asM cl (fm 0) (ai 0) (sna 0) wd (wma 0) eg em (40 - mm) = false) := w14
          · refine lv_istore (lv' := [(5, .int (nI 1)), (4, .int (nI (40 - mm))), (2, .int (nI ((rvM (fun x => asM cl (fm 0) (ai 0) (sna 0) wd (wma 0) eg em x) mm).1))), (3, .int (iI ((rvM (fun x => asM cl (fm 0) (ai 0) (sna 0) wd (wma 0) eg em x) mm).2))), (0, .ref rr), (1, .int (nI 1))]) hx hb dX7_stood_32 hl (by decide) rfl (fun ls hl => ?_)
            refine lv_iload_n hx hb dX7_stood_34 rfl (lv_at hl 2 rfl) ?_
            refine lv_iload hx hb dX7_stood_35 (lv_at hl 0 rfl) ?_
            refine x_if_eq (tgt := 44) hx hb dX7_stood_37 (by decide) (by omega) (fun h17 => False.elim (by omega)) (fun h17 => ?_)
            refine lv_iconst (v := (nI 1)) hx hb dX7_stood_40 (by decide) ?_
            refine lv_goto (tgt := 45) hx hb dX7_stood_41 (by decide) ?_
            refine x_iadd hx hb dX7_stood_45 ?_
            refine lv_istore_n (lv' := [(2, .int (nI ((rvM (fun x => asM cl (fm 0) (ai 0) (sna 0) wd (wma 0) eg em x) mm).1 + 1))), (5, .int (nI 1)), (4, .int (nI (40 - mm))), (3, .int (iI ((rvM (fun x => asM cl (fm 0) (ai 0) (sna 0) wd (wma 0) eg em x) mm).2))), (0, .ref rr), (1, .int (nI 1))]) hx hb dX7_stood_46 rfl hl (by decide) rfl (fun ls hl => ?_)
            refine lv_iload hx hb dX7_stood_47 (lv_at hl 1 rfl) ?_
            refine x_if_eq (tgt := 57) hx hb dX7_stood_49 (by decide) (by omega) (fun h18 => False.elim (by omega)) (fun h18 => ?_)
            refine lv_iload hx hb dX7_stood_52 (lv_at hl 2 rfl) ?_
            refine lv_goto (tgt := 58) hx hb dX7_stood_54 (by decide) ?_
            refine lv_istore_n (lv' := [(3, .int (nI (40 - mm))), (2, .int (nI ((rvM (fun x => asM cl (fm 0) (ai 0) (sna 0) wd (wma 0) eg em x) mm).1 + 1))), (5, .int (nI 1)), (4, .int (nI (40 - mm))), (0, .ref rr), (1, .int (nI 1))]) hx hb dX7_stood_58 rfl hl (by decide) rfl (fun ls hl => ?_)
            rw [show (nI (40 - mm)) = (iI (40 - ((mm : Nat) : Int))) from by rw [nI_iI]; exact congrArg iI (by omega)] at hl
            refine lv_iinc (v := (iI (40 - ((mm : Nat) : Int) + (-1)))) (lv' := [(4, .int (iI (40 - ((mm : Nat) : Int) + (-1)))), (3, .int (iI (40 - ((mm : Nat) : Int)))), (2, .int (nI ((rvM (fun x => asM cl (fm 0) (ai 0) (sna 0) wd (wma 0) eg em x) mm).1 + 1))), (5, .int (nI 1)), (0, .ref rr), (1, .int (nI 1))]) hx hb dX7_stood_59 hl (k := 3) rfl (iI_add _ (-1)) (by decide) rfl (fun ls hl => ?_)
            refine lv_goto (tgt := 21) hx hb dX7_stood_62 (by decide) ?_
            rw [show (iI (40 - ((mm : Nat) : Int) + (-1))) = (iI (40 - ((mm + 1 : Nat) : Int))) from congrArg iI (by omega)] at hl
            have hl : lv_has ls 6 [(4, .int (iI (40 - ((mm + 1 : Nat) : Int)))), (2, .int (nI ((rvM (fun x => asM cl (fm 0) (ai 0) (sna 0) wd (wma 0) eg em x) (mm + 1)).1))), (3, .int (iI ((rvM (fun x => asM cl (fm 0) (ai 0) (sna 0) wd (wma 0) eg em x) (mm + 1)).2))), (0, .ref rr), (1, .int (nI 1))] := by have h := hl; have e := rvM_t (p := (fun x => asM cl (fm 0) (ai 0) (sna 0) wd (wma 0) eg em x)) (m := mm) h15; rw [e]; have h := lv_sub h [0, 2, 1, 4, 5] rfl; simp only [nI_iI] at h ⊢; exact h
            exact ih21 (mm + 1) lg'12 vg'13 (by omega) (by omega) _ _ (hP.sub [0, 1, 2, 3, 4, 5, 6, 7, 8, 9, 10, 11, 12, 13, 14, 15] rfl) (hD.sub [0, 1, 2, 3, 4, 5, 6, 7, 8, 9, 10, 11, 12, 13, 14, 15] rfl rfl) hS _ (lv_sub hl [0, 1, 2, 3, 4] rfl)
          · refine lv_istore (lv' := [(5, .int (nI 0)), (4, .int (nI (40 - mm))), (2, .int (nI ((rvM (fun x => asM cl (fm 0) (ai 0) (sna 0) wd (wma 0) eg em x) mm).1))), (3, .int (iI ((rvM (fun x => asM cl (fm 0) (ai 0) (sna 0) wd (wma 0) eg em x) mm).2))), (0, .ref rr), (1, .int (nI 1))]) hx hb dX7_stood_32 hl (by decide) rfl (fun ls hl => ?_)
            refine lv_iload_n hx hb dX7_stood_34 rfl (lv_at hl 2 rfl) ?_
            refine lv_iload hx hb dX7_stood_35 (lv_at hl 0 rfl) ?_
            refine x_if_eq (tgt := 44) hx hb dX7_stood_37 (by decide) (by omega) (fun h19 => ?_) (fun h19 => False.elim (by omega))
            refine lv_iconst (v := (nI 0)) hx hb dX7_stood_44 (by decide) ?_
            refine x_iadd hx hb dX7_stood_45 ?_
            refine lv_istore_n (lv' := [(2, .int (nI ((rvM (fun x => asM cl (fm 0) (ai 0) (sna 0) wd (wma 0) eg em x) mm).1 + 0))), (5, .int (nI 0)), (4, .int (nI (40 - mm))), (3, .int (iI ((rvM (fun x => asM cl (fm 0) (ai 0) (sna 0) wd (wma 0) eg em x) mm).2))), (0, .ref rr), (1, .int (nI 1))]) hx hb dX7_stood_46 rfl hl (by decide) rfl (fun ls hl => ?_)
            refine lv_iload hx hb dX7_stood_47 (lv_at hl 1 rfl) ?_
            refine x_if_eq (tgt := 57) hx hb dX7_stood_49 (by decide) (by omega) (fun h20 => ?_) (fun h20 => False.elim (by omega))
            refine lv_iload_n hx hb dX7_stood_57 rfl (lv_at hl 3 rfl) ?_
            refine lv_istore_n (lv' := [(3, .int (iI ((rvM (fun x => asM cl (fm 0) (ai 0) (sna 0) wd (wma 0) eg em x) mm).2))), (2, .int (nI ((rvM (fun x => asM cl (fm 0) (ai 0) (sna 0) wd (wma 0) eg em x) mm).1 + 0))), (5, .int (nI 0)), (4, .int (nI (40 - mm))), (0, .ref rr), (1, .int (nI 1))]) hx hb dX7_stood_58 rfl hl (by decide) rfl (fun ls hl => ?_)
            rw [show (nI (40 - mm)) = (iI (40 - ((mm : Nat) : Int))) from by rw [nI_iI]; exact congrArg iI (by omega)] at hl
            refine lv_iinc (v := (iI (40 - ((mm : Nat) : Int) + (-1)))) (lv' := [(4, .int (iI (40 - ((mm : Nat) : Int) + (-1)))), (3, .int (iI ((rvM (fun x => asM cl (fm 0) (ai 0) (sna 0) wd (wma 0) eg em x) mm).2))), (2, .int (nI ((rvM (fun x => asM cl (fm 0) (ai 0) (sna 0) wd (wma 0) eg em x) mm).1 + 0))), (5, .int (nI 0)), (0, .ref rr), (1, .int (nI 1))]) hx hb dX7_stood_59 hl (k := 3) rfl (iI_add _ (-1)) (by decide) rfl (fun ls hl => ?_)
            refine lv_goto (tgt := 21) hx hb dX7_stood_62 (by decide) ?_
            rw [show (iI (40 - ((mm : Nat) : Int) + (-1))) = (iI (40 - ((mm + 1 : Nat) : Int))) from congrArg iI (by omega)] at hl
            have hl : lv_has ls 6 [(4, .int (iI (40 - ((mm + 1 : Nat) : Int)))), (2, .int (nI ((rvM (fun x => asM cl (fm 0) (ai 0) (sna 0) wd (wma 0) eg em x) (mm + 1)).1))), (3, .int (iI ((rvM (fun x => asM cl (fm 0) (ai 0) (sna 0) wd (wma 0) eg em x) (mm + 1)).2))), (0, .ref rr), (1, .int (nI 1))] := by have h := hl; have e := rvM_f (p := (fun x => asM cl (fm 0) (ai 0) (sna 0) wd (wma 0) eg em x)) (m := mm) h16; rw [e]; have h := lv_sub h [0, 2, 1, 4, 5] rfl; simp only [nI_iI] at h ⊢; exact h
            exact ih21 (mm + 1) lg'12 vg'13 (by omega) (by omega) _ _ (hP.sub [0, 1, 2, 3, 4, 5, 6, 7, 8, 9, 10, 11, 12, 13, 14, 15] rfl) (hD.sub [0, 1, 2, 3, 4, 5, 6, 7, 8, 9, 10, 11, 12, 13, 14, 15] rfl rfl) hS _ (lv_sub hl [0, 1, 2, 3, 4] rfl)
    rw [show (nI 40) = (iI (40 - ((0 : Nat) : Int))) from by rw [nI_iI]; exact congrArg iI (by omega)] at hl
    exact loop21 _ 0 lg vg (Nat.lt_succ_self _) (by omega) _ _ (hP.sub [0, 1, 2, 3, 4, 5, 6, 7, 8, 9, 10, 11, 12, 13, 14, 15] rfl) (hD.sub [0, 1, 2, 3, 4, 5, 6, 7, 8, 9, 10, 11, 12, 13, 14, 15] rfl rfl) hS _ (lv_sub hl [0, 2, 1, 3, 4] rfl)
  · exact False.elim (by omega)

set_option maxRecDepth 100000 in
set_option maxHeartbeats 4000000 in
theorem c_X7_thick (l : Launch) (D : va_G) (cI cC : ClassId) (rr : Nat) (ad : Nat → Nat) (len : Nat) (kp : Nat) (uo : Nat) (tm : Nat) (em : Nat) (pc0 : Nat) (fm : Nat → Nat) (pq : Nat → Nat) (dq : Nat → Nat) (kq : Nat → Nat) (ai : Nat → Nat) (sna : Nat → Nat) (wma : Nat → Nat) (be : Nat → Nat) (va : Nat → Nat) (lo : Nat → Nat) (spa : Nat → Nat) (hea : Nat → Nat) (lg : Nat → Nat) (vg : Nat → Nat) (cl : Nat → Nat) (hrc : relC pq dq kq cl (fm 0)) (hok : okC cl (fm 0)) (wd : Nat → Nat) (hrd : relD be va lo wd (wma 0)) (hokd : okD wd (wma 0)) (hnw : wma 0 ≤ 8) (hfm : fm 0 ≤ 4 ∧ ai 0 ≤ 99 ∧ sna 0 < 2147483648) (hsp : spa 0 ≤ 40 ∧ hea 0 ≤ 40) (tt : Nat) (ht99 : tt ≤ 99) (hall : ∀ q, 1 ≤ q → q ≤ tt → cntClr cl (fm 0) q (sna 0) wd (wma 0) (spa 0) (hea 0) = wma 0) (hstop : tt < 99 → ¬ cntClr cl (fm 0) (tt + 1) (sna 0) wd (wma 0) (spa 0) (hea 0) = wma 0) : mtI l D cI cC yX7_thick wsX7_thick ({ frames := 5, cells := 0, slots := 0, locals := 120 }) [.ref rr] [(rr, eMod ad len kp uo tm em pc0), (ad 2, eArr cI 2 fm), (ad 3, eArr cI 8 pq), (ad 4, eArr cI 8 dq), (ad 5, eArr cI 8 kq), (ad 6, eArr cI 2 ai), (ad 13, eArr cI 4 sna), (ad 7, eArr cI 4 wma), (ad 8, eArr cI 32 be), (ad 9, eArr cI 32 va), (ad 10, eArr cI 32 lo), (ad 11, eArr cI 4 spa), (ad 12, eArr cI 4 hea), (ad 20, eArr cI 150 lg), (ad 21, eArr cI 150 vg)] (fun (r : Int32) ((lg', vg') : (Nat → Nat) × (Nat → Nat)) => r = (iI (thv (tt + 1)))) (fun ((lg', vg') : (Nat → Nat) × (Nat → Nat)) => [(rr, eMod ad len kp uo tm em pc0), (ad 2, eArr cI 2 fm), (ad 3, eArr cI 8 pq), (ad 4, eArr cI 8 dq), (ad 5, eArr cI 8 kq), (ad 6, eArr cI 2 ai), (ad 13, eArr cI 4 sna), (ad 7, eArr cI 4 wma), (ad 8, eArr cI 32 be), (ad 9, eArr cI 32 va), (ad 10, eArr cI 32 lo), (ad 11, eArr cI 4 spa), (ad 12, eArr cI 4 hea), (ad 20, eArr cI 150 lg'), (ad 21, eArr cI 150 vg')]) := by
  refine mtI_of (cc := cX7_thick) (maxL := 5) (ret := (some .int)) (by decide) rfl rfl ?_
  intro p e s m below meth c A hx hb hml hr hts hown hlocks hN hA hK hP hD hS ls hl
  have hown : s.vm.findClass RX7 = some m.cls := hown
  have hl : lv_has ls 5 [(0, .ref rr)] := hl
  obtain ⟨H, hHe⟩ : ∃ H, H = s.heap := ⟨_, rfl⟩
  rw [← hHe] at hP ⊢
  have hS : va_S A s.heap H [] := by rw [hHe]; exact va_S.rf
  have fl25 := hts (.fieldLink RX7 25 "EchoPaysRentModel" "air" "[I") (by decide +kernel)
  have inX7 : ∀ w ∈ wsX70, w ∈ wsX7_thick := by decide +kernel
  have fl40 := hts (.fieldLink RX7 40 "EchoPaysRentModel" "speaker" "[I") (by decide +kernel)
  have fl43 := hts (.fieldLink RX7 43 "EchoPaysRentModel" "hearer" "[I") (by decide +kernel)
  have fl28 := hts (.fieldLink RX7 28 "EchoPaysRentModel" "wordMany" "[I") (by decide +kernel)
  refine lv_aload_n hx hb dX7_thick_0 rfl (lv_at hl 0 rfl) ?_
  refine va_get (D := D) (ci := 7) (v := .ref (ad 6)) (C := RX7) (T := TX7) (N := 28) hx hb hts inX7 hown hK hP 0 rfl rfl 6 (by decide) fl25 (fun _ h9 => h9) rfl dX7_thick_1 ?_
  refine lv_iconst (v := (nI 0)) hx hb dX7_thick_4 (by decide) ?_
  refine x_iald (A := A) hx hb hK hP 5 0 rfl rfl dX7_thick_5 (by omega) (by omega) ?_
  refine lv_istore_n (lv' := [(1, .int (nI (ai 0))), (0, .ref rr)]) hx hb dX7_thick_6 rfl hl (by decide) rfl (fun ls hl => ?_)
  refine lv_bipush (v := (iI (-4))) hx hb dX7_thick_7 (by decide) ?_
  refine lv_istore_n (lv' := [(2, .int (iI (-4))), (1, .int (nI (ai 0))), (0, .ref rr)]) hx hb dX7_thick_9 rfl hl (by decide) rfl (fun ls hl => ?_)
  refine lv_iconst (v := (nI 1)) hx hb dX7_thick_10 (by decide) ?_
  refine lv_istore_n (lv' := [(3, .int (nI 1)), (2, .int (iI (-4))), (1, .int (nI (ai 0))), (0, .ref rr)]) hx hb dX7_thick_11 rfl hl (by decide) rfl (fun ls hl => ?_)
  refine lv_iconst (v := (nI 1)) hx hb dX7_thick_12 (by decide) ?_
  refine lv_istore (lv' := [(4, .int (nI 1)), (3, .int (nI 1)), (2, .int (iI (-4))), (1, .int (nI (ai 0))), (0, .ref rr)]) hx hb dX7_thick_13 hl (by decide) rfl (fun ls hl => ?_)
  have loop15 : ∀ (nn15 : Nat) (q : Nat) (al : Nat) (mo' : Int) (ai' : Nat → Nat) (lg' : Nat → Nat) (vg' : Nat → Nat), 101 - q < nn15 → ((al = 1 ∧ q ≤ tt + 1 ∧ mo' = thv q) ∨ (al = 0 ∧ q = tt + 2 ∧ mo' = thv (tt + 1))) → (1 ≤ q) → (q ≤ 101) → (ai' 1 = ai 1) → (al ≤ 1) → ∀ (H : Heap) (locs : List Loc), va_P D vwCl [(rr, eMod ad len kp uo tm em pc0), (ad 2, eArr cI 2 fm), (ad 3, eArr cI 8 pq), (ad 4, eArr cI 8 dq), (ad 5, eArr cI 8 kq), (ad 6, eArr cI 2 ai'), (ad 13, eArr cI 4 sna), (ad 7, eArr cI 4 wma), (ad 8, eArr cI 32 be), (ad 9, eArr cI 32 va), (ad 10, eArr cI 32 lo), (ad 11, eArr cI 4 spa), (ad 12, eArr cI 4 hea), (ad 20, eArr cI 150 lg'), (ad 21, eArr cI 150 vg')] H → va_D A [(rr, eMod ad len kp uo tm em pc0), (ad 2, eArr cI 2 fm), (ad 3, eArr cI 8 pq), (ad 4, eArr cI 8 dq), (ad 5, eArr cI 8 kq), (ad 6, eArr cI 2 ai'), (ad 13, eArr cI 4 sna), (ad 7, eArr cI 4 wma), (ad 8, eArr cI 32 be), (ad 9, eArr cI 32 va), (ad 10, eArr cI 32 lo), (ad 11, eArr cI 4 spa), (ad 12, eArr cI 4 hea), (ad 20, eArr cI 150 lg'), (ad 21, eArr cI 150 vg')] → va_S A s.heap H locs → ∀ ls : Array Slot, lv_has ls 5 [(4, .int (nI q)), (3, .int (nI al)), (2, .int (iI mo')), (1, .int (nI (ai 0))), (0, .ref rr)] → W p l e (headSpec wsX7_thick ({ frames := 5, cells := 0, slots := 0, locals := 120 })).room s m ([.ref rr] : List Value).toArray below meth c H locs 0 0 (MQ below (va_Qi (fun (r : Int32) ((lg', vg') : (Nat → Nat) × (Nat → Nat)) => r = (iI (thv (tt + 1)))) (ctB D cI cC (fun ((lg', vg') : (Nat → Nat) × (Nat → Nat)) => [(rr, eMod ad len kp uo tm em pc0), (ad 2, eArr cI 2 fm), (ad 3, eArr cI 8 pq), (ad 4, eArr cI 8 dq), (ad 5, eArr cI 8 kq), (ad 6, eArr cI 2 ai), (ad 13, eArr cI 4 sna), (ad 7, eArr cI 4 wma), (ad 8, eArr cI 32 be), (ad 9, eArr cI 32 va), (ad 10, eArr cI 32 lo), (ad 11, eArr cI 4 spa), (ad 12, eArr cI 4 hea), (ad 20, eArr cI 150 lg'), (ad 21, eArr cI 150 vg')]) A) A) ([.ref rr] : List Value).toArray s 0 0 A) (F0 m 15 ls []) := by
    intro nn15
    induction nn15 with
    | zero =>
      intro q al mo' ai' lg' vg' hm1
      exact absurd hm1 (Nat.not_lt_zero _)
    | succ nn15 ih15 =>
      intro q al mo' ai' lg' vg' hm1 hcase hi2 hi3 hai1 hi4 H locs hP hD hS ls hl
      refine lv_iload hx hb dX7_thick_15 (lv_at hl 0 rfl) ?_
      refine lv_bipush (v := (nI 99)) hx hb dX7_thick_17 (by decide) ?_
      refine x_icmp_gt (tgt := 82) hx hb dX7_thick_19 (by decide) (by omega) (by omega) (fun h5 => ?_) (fun h5 => ?_)
      · have hmt : mo' = thv (tt + 1) := by rcases hcase with h | h; rw [h.2.2, show q = tt + 1 from by omega]; exact h.2.2
        rw [hmt] at hl
        refine lv_aload_n hx hb dX7_thick_82 rfl (lv_at hl 4 rfl) ?_
        refine va_get (D := D) (ci := 7) (v := .ref (ad 6)) (C := RX7) (T := TX7) (N := 28) hx hb hts inX7 hown hK hP 0 rfl rfl 6 (by decide) fl25 (fun _ h9 => h9) rfl dX7_thick_83 ?_
        refine lv_iconst (v := (nI 0)) hx hb dX7_thick_86 (by decide) ?_
        refine lv_iload_n hx hb dX7_thick_87 rfl (lv_at hl 3 rfl) ?_
        refine x_iast (A := A) hx hb hK hP hD hS 5 0 rfl rfl dX7_thick_88 (by omega) (by omega) (fun H locs hP hD hS => ?_)
        have hP : va_P D vwCl [(rr, eMod ad len kp uo tm em pc0), (ad 2, eArr cI 2 fm), (ad 3, eArr cI 8 pq), (ad 4, eArr cI 8 dq), (ad 5, eArr cI 8 kq), (ad 6, eArr cI 2 (upN ai' 0 (ai 0))), (ad 13, eArr cI 4 sna), (ad 7, eArr cI 4 wma), (ad 8, eArr cI 32 be), (ad 9, eArr cI 32 va), (ad 10, eArr cI 32 lo), (ad 11, eArr cI 4 spa), (ad 12, eArr cI 4 hea), (ad 20, eArr cI 150 lg'), (ad 21, eArr cI 150 vg')] H := by have h := hP; rw [upd_nI] at h; exact h
        have hD : va_D A [(rr, eMod ad len kp uo tm em pc0), (ad 2, eArr cI 2 fm), (ad 3, eArr cI 8 pq), (ad 4, eArr cI 8 dq), (ad 5, eArr cI 8 kq), (ad 6, eArr cI 2 (upN ai' 0 (ai 0))), (ad 13, eArr cI 4 sna), (ad 7, eArr cI 4 wma), (ad 8, eArr cI 32 be), (ad 9, eArr cI 32 va), (ad 10, eArr cI 32 lo), (ad 11, eArr cI 4 spa), (ad 12, eArr cI 4 hea), (ad 20, eArr cI 150 lg'), (ad 21, eArr cI 150 vg')] := by have h := hD; rw [upd_nI] at h; exact h
        have hP := va_P_arr (g' := ai) hP 5 rfl (fun j hj => by rcases (show j = 0 ∨ j = 1 by omega) with h | h; rw [h, upN_s]; rw [h, upN_n (by omega), hai1])
        have hD := hD.set (p := 5) (e := eArr cI 2 ai) rfl
        have hP : va_P D vwCl [(rr, eMod ad len kp uo tm em pc0), (ad 2, eArr cI 2 fm), (ad 3, eArr cI 8 pq), (ad 4, eArr cI 8 dq), (ad 5, eArr cI 8 kq), (ad 6, eArr cI 2 ai), (ad 13, eArr cI 4 sna), (ad 7, eArr cI 4 wma), (ad 8, eArr cI 32 be), (ad 9, eArr cI 32 va), (ad 10, eArr cI 32 lo), (ad 11, eArr cI 4 spa), (ad 12, eArr cI 4 hea), (ad 20, eArr cI 150 lg'), (ad 21, eArr cI 150 vg')] H := hP
        have hD : va_D A [(rr, eMod ad len kp uo tm em pc0), (ad 2, eArr cI 2 fm), (ad 3, eArr cI 8 pq), (ad 4, eArr cI 8 dq), (ad 5, eArr cI 8 kq), (ad 6, eArr cI 2 ai), (ad 13, eArr cI 4 sna), (ad 7, eArr cI 4 wma), (ad 8, eArr cI 32 be), (ad 9, eArr cI 32 va), (ad 10, eArr cI 32 lo), (ad 11, eArr cI 4 spa), (ad 12, eArr cI 4 hea), (ad 20, eArr cI 150 lg'), (ad 21, eArr cI 150 vg')] := hD
        refine lv_iload_n hx hb dX7_thick_89 rfl (lv_at hl 2 rfl) ?_
        exact x_iret hx hb hr hlocks dX7_thick_90 rfl (post := fun (r : Int32) ((lg', vg') : (Nat → Nat) × (Nat → Nat)) => r = (iI (thv (tt + 1)))) (w1 := fun ((lg', vg') : (Nat → Nat) × (Nat → Nat)) => [(rr, eMod ad len kp uo tm em pc0), (ad 2, eArr cI 2 fm), (ad 3, eArr cI 8 pq), (ad 4, eArr cI 8 dq), (ad 5, eArr cI 8 kq), (ad 6, eArr cI 2 ai), (ad 13, eArr cI 4 sna), (ad 7, eArr cI 4 wma), (ad 8, eArr cI 32 be), (ad 9, eArr cI 32 va), (ad 10, eArr cI 32 lo), (ad 11, eArr cI 4 spa), (ad 12, eArr cI 4 hea), (ad 20, eArr cI 150 lg'), (ad 21, eArr cI 150 vg')]) (lg', vg') rfl hK hP hD hS
      · refine lv_iload_n hx hb dX7_thick_22 rfl (lv_at hl 1 rfl) ?_
        refine x_if_eq (tgt := 82) hx hb dX7_thick_23 (by decide) (by omega) (fun h6 => ?_) (fun h6 => ?_)
        · have hmt : mo' = thv (tt + 1) := by rcases hcase with h | h; rw [h.2.2, show q = tt + 1 from by omega]; exact h.2.2
          rw [hmt] at hl
          refine lv_aload_n hx hb dX7_thick_82 rfl (lv_at hl 4 rfl) ?_
          refine va_get (D := D) (ci := 7) (v := .ref (ad 6)) (C := RX7) (T := TX7) (N := 28) hx hb hts inX7 hown hK hP 0 rfl rfl 6 (by decide) fl25 (fun _ h9 => h9) rfl dX7_thick_83 ?_
          refine lv_iconst (v := (nI 0)) hx hb dX7_thick_86 (by decide) ?_
          refine lv_iload_n hx hb dX7_thick_87 rfl (lv_at hl 3 rfl) ?_
          refine x_iast (A := A) hx hb hK hP hD hS 5 0 rfl rfl dX7_thick_88 (by omega) (by omega) (fun H locs hP hD hS => ?_)
          have hP : va_P D vwCl [(rr, eMod ad len kp uo tm em pc0), (ad 2, eArr cI 2 fm), (ad 3, eArr cI 8 pq), (ad 4, eArr cI 8 dq), (ad 5, eArr cI 8 kq), (ad 6, eArr cI 2 (upN ai' 0 (ai 0))), (ad 13, eArr cI 4 sna), (ad 7, eArr cI 4 wma), (ad 8, eArr cI 32 be), (ad 9, eArr cI 32 va), (ad 10, eArr cI 32 lo), (ad 11, eArr cI 4 spa), (ad 12, eArr cI 4 hea), (ad 20, eArr cI 150 lg'), (ad 21, eArr cI 150 vg')] H := by have h := hP; rw [upd_nI] at h; exact h
          have hD : va_D A [(rr, eMod ad len kp uo tm em pc0), (ad 2, eArr cI 2 fm), (ad 3, eArr cI 8 pq), (ad 4, eArr cI 8 dq), (ad 5, eArr cI 8 kq), (ad 6, eArr cI 2 (upN ai' 0 (ai 0))), (ad 13, eArr cI 4 sna), (ad 7, eArr cI 4 wma), (ad 8, eArr cI 32 be), (ad 9, eArr cI 32 va), (ad 10, eArr cI 32 lo), (ad 11, eArr cI 4 spa), (ad 12, eArr cI 4 hea), (ad 20, eArr cI 150 lg'), (ad 21, eArr cI 150 vg')] := by have h := hD; rw [upd_nI] at h; exact h
          have hP := va_P_arr (g' := ai) hP 5 rfl (fun j hj => by rcases (show j = 0 ∨ j = 1 by omega) with h | h; rw [h, upN_s]; rw [h, upN_n (by omega), hai1])
          have hD := hD.set (p := 5) (e := eArr cI 2 ai) rfl
          have hP : va_P D vwCl [(rr, eMod ad len kp uo tm em pc0), (ad 2, eArr cI 2 fm), (ad 3, eArr cI 8 pq), (ad 4, eArr cI 8 dq), (ad 5, eArr cI 8 kq), (ad 6, eArr cI 2 ai), (ad 13, eArr cI 4 sna), (ad 7, eArr cI 4 wma), (ad 8, eArr cI 32 be), (ad 9, eArr cI 32 va), (ad 10, eArr cI 32 lo), (ad 11, eArr cI 4 spa), (ad 12, eArr cI 4 hea), (ad 20, eArr cI 150 lg'), (ad 21, eArr cI 150 vg')] H := hP
          have hD : va_D A [(rr, eMod ad len kp uo tm em pc0), (ad 2, eArr cI 2 fm), (ad 3, eArr cI 8 pq), (ad 4, eArr cI 8 dq), (ad 5, eArr cI 8 kq), (ad 6, eArr cI 2 ai), (ad 13, eArr cI 4 sna), (ad 7, eArr cI 4 wma), (ad 8, eArr cI 32 be), (ad 9, eArr cI 32 va), (ad 10, eArr cI 32 lo), (ad 11, eArr cI 4 spa), (ad 12, eArr cI 4 hea), (ad 20, eArr cI 150 lg'), (ad 21, eArr cI 150 vg')] := hD
          refine lv_iload_n hx hb dX7_thick_89 rfl (lv_at hl 2 rfl) ?_
          exact x_iret hx hb hr hlocks dX7_thick_90 rfl (post := fun (r : Int32) ((lg', vg') : (Nat → Nat) × (Nat → Nat)) => r = (iI (thv (tt + 1)))) (w1 := fun ((lg', vg') : (Nat → Nat) × (Nat → Nat)) => [(rr, eMod ad len kp uo tm em pc0), (ad 2, eArr cI 2 fm), (ad 3, eArr cI 8 pq), (ad 4, eArr cI 8 dq), (ad 5, eArr cI 8 kq), (ad 6, eArr cI 2 ai), (ad 13, eArr cI 4 sna), (ad 7, eArr cI 4 wma), (ad 8, eArr cI 32 be), (ad 9, eArr cI 32 va), (ad 10, eArr cI 32 lo), (ad 11, eArr cI 4 spa), (ad 12, eArr cI 4 hea), (ad 20, eArr cI 150 lg'), (ad 21, eArr cI 150 vg')]) (lg', vg') rfl hK hP hD hS
        · have hal1 : al = 1 ∧ q ≤ tt + 1 ∧ mo' = thv q := by rcases hcase with h | h; exact h; omega
          have hmo := hal1.2.2
          refine lv_aload_n hx hb dX7_thick_26 rfl (lv_at hl 4 rfl) ?_
          refine va_get (D := D) (ci := 7) (v := .ref (ad 6)) (C := RX7) (T := TX7) (N := 28) hx hb hts inX7 hown hK hP 0 rfl rfl 6 (by decide) fl25 (fun _ h9 => h9) rfl dX7_thick_27 ?_
          refine lv_iconst (v := (nI 0)) hx hb dX7_thick_30 (by decide) ?_
          refine lv_iload hx hb dX7_thick_31 (lv_at hl 0 rfl) ?_
          refine x_iast (A := A) hx hb hK hP hD hS 5 0 rfl rfl dX7_thick_33 (by omega) (by omega) (fun H locs hP hD hS => ?_)
          have hP : va_P D vwCl [(rr, eMod ad len kp uo tm em pc0), (ad 2, eArr cI 2 fm), (ad 3, eArr cI 8 pq), (ad 4, eArr cI 8 dq), (ad 5, eArr cI 8 kq), (ad 6, eArr cI 2 (upN ai' 0 q)), (ad 13, eArr cI 4 sna), (ad 7, eArr cI 4 wma), (ad 8, eArr cI 32 be), (ad 9, eArr cI 32 va), (ad 10, eArr cI 32 lo), (ad 11, eArr cI 4 spa), (ad 12, eArr cI 4 hea), (ad 20, eArr cI 150 lg'), (ad 21, eArr cI 150 vg')] H := by have h := hP; rw [upd_nI] at h; exact h
          have hD : va_D A [(rr, eMod ad len kp uo tm em pc0), (ad 2, eArr cI 2 fm), (ad 3, eArr cI 8 pq), (ad 4, eArr cI 8 dq), (ad 5, eArr cI 8 kq), (ad 6, eArr cI 2 (upN ai' 0 q)), (ad 13, eArr cI 4 sna), (ad 7, eArr cI 4 wma), (ad 8, eArr cI 32 be), (ad 9, eArr cI 32 va), (ad 10, eArr cI 32 lo), (ad 11, eArr cI 4 spa), (ad 12, eArr cI 4 hea), (ad 20, eArr cI 150 lg'), (ad 21, eArr cI 150 vg')] := by have h := hD; rw [upd_nI] at h; exact h
          refine lv_aload_n hx hb dX7_thick_34 rfl (lv_at hl 4 rfl) ?_
          refine lv_aload_n hx hb dX7_thick_35 rfl (lv_at hl 4 rfl) ?_
          refine va_get (D := D) (ci := 7) (v := .ref (ad 11)) (C := RX7) (T := TX7) (N := 28) hx hb hts inX7 hown hK hP 0 rfl rfl 11 (by decide) fl40 (fun _ h9 => h9) rfl dX7_thick_36 ?_
          refine lv_iconst (v := (nI 0)) hx hb dX7_thick_39 (by decide) ?_
          refine x_iald (A := A) hx hb hK hP 11 0 rfl rfl dX7_thick_40 (by omega) (by omega) ?_
          refine lv_aload_n hx hb dX7_thick_41 rfl (lv_at hl 4 rfl) ?_
          refine va_get (D := D) (ci := 7) (v := .ref (ad 12)) (C := RX7) (T := TX7) (N := 28) hx hb hts inX7 hown hK hP 0 rfl rfl 12 (by decide) fl43 (fun _ h9 => h9) rfl dX7_thick_42 ?_
          refine lv_iconst (v := (nI 0)) hx hb dX7_thick_45 (by decide) ?_
          refine x_iald (A := A) hx hb hK hP 12 0 rfl rfl dX7_thick_46 (by omega) (by omega) ?_
          refine k_V (q := (RX7, TX7, 28)) (ci := 7) (As := [.int (nI (spa 0)), .int (nI (hea 0))]) (wr := [(ad 11, eArr cI 4 spa), (ad 12, eArr cI 4 hea)]) ⟨hx, hb, hml, hown, hts⟩ (c_X7_clearMany l D cI cC rr ad len kp uo tm em pc0 fm pq dq kq (upN ai' 0 q) sna wma be va lo lg' vg' cl hrc hok ⟨by omega, by rw [upN_s]; omega, by omega⟩ wd hrd hokd (by omega) (spa 0) (hea 0) (by omega)) (cwV 2 hts gX7_thick_X7_clearMany rfl rfl rfl (by decide +kernel) ⟨Nat.le_of_ble_eq_true rfl, Nat.le_of_ble_eq_true rfl⟩) rfl hl.1 rfl (Nat.le_of_ble_eq_true rfl) dX7_thick_47 ⟨Nat.zero_le _, Nat.zero_le _⟩ hN hK hP hD hS hA rfl (q0 := 0) rfl [0, 1, 2, 3, 4, 5, 6, 7, 8, 9, 10, 13, 14] [11, 12] rfl rfl ⟨rfl, rfl, by decide⟩ (fun r7 u H locs w8 hP hD hS => ?_)
          obtain rfl : r7 = (nI (cntClr cl (fm 0) ((upN ai' 0 q) 0) (sna 0) wd (wma 0) (spa 0) (hea 0))) := w8
          refine x_top (show nI (cntClr cl (fm 0) ((upN ai' 0 q) 0) (sna 0) wd (wma 0) (spa 0) (hea 0)) = nI (cntClr cl (fm 0) q (sna 0) wd (wma 0) (spa 0) (hea 0)) from by rw [upN_s]) ?_
          have hcb := cntClr_le cl (fm 0) q (sna 0) wd (wma 0) (spa 0) (hea 0)
          refine lv_aload_n hx hb dX7_thick_50 rfl (lv_at hl 4 rfl) ?_
          refine va_get (D := D) (ci := 7) (v := .ref (ad 7)) (C := RX7) (T := TX7) (N := 28) hx hb hts inX7 hown hK hP 2 rfl rfl 7 (by decide) fl28 (fun _ h9 => h9) rfl dX7_thick_51 ?_
          refine lv_iconst (v := (nI 0)) hx hb dX7_thick_54 (by decide) ?_
          refine x_iald (A := A) hx hb hK hP 9 0 rfl rfl dX7_thick_55 (by omega) (by omega) ?_
          refine x_icmp_ne (tgt := 63) hx hb dX7_thick_56 (by decide) (by omega) (by omega) (fun h9 => ?_) (fun h9 => ?_)
          · have hq1 : q = tt + 1 := by apply Classical.byContradiction; intro hc; have hh : ¬ cntClr cl (fm 0) q (sna 0) wd (wma 0) (spa 0) (hea 0) = wma 0 := (by assumption); exact hh (hall q (by omega) (by omega))
            refine lv_iconst (v := (nI 0)) hx hb dX7_thick_63 (by decide) ?_
            refine lv_istore_n (lv' := [(3, .int (nI 0)), (4, .int (nI q)), (2, .int (iI mo')), (1, .int (nI (ai 0))), (0, .ref rr)]) hx hb dX7_thick_64 rfl hl (by decide) rfl (fun ls hl => ?_)
            refine lv_iload_n hx hb dX7_thick_65 rfl (lv_at hl 0 rfl) ?_
            refine x_if_eq (tgt := 74) hx hb dX7_thick_66 (by decide) (by omega) (fun h10 => ?_) (fun h10 => False.elim (by omega))
            refine lv_iload_n hx hb dX7_thick_74 rfl (lv_at hl 2 rfl) ?_
            refine lv_istore_n (lv' := [(2, .int (iI mo')), (3, .int (nI 0)), (4, .int (nI q)), (1, .int (nI (ai 0))), (0, .ref rr)]) hx hb dX7_thick_75 rfl hl (by decide) rfl (fun ls hl => ?_)
            refine lv_iinc (v := (nI (q + 1))) (lv' := [(4, .int (nI (q + 1))), (2, .int (iI mo')), (3, .int (nI 0)), (1, .int (nI (ai 0))), (0, .ref rr)]) hx hb dX7_thick_76 hl (k := 2) rfl (nI_inc _ 1) (by decide) rfl (fun ls hl => ?_)
            refine lv_goto (tgt := 15) hx hb dX7_thick_79 (by decide) ?_
            exact ih15 (q + 1) 0 mo' (upN ai' 0 q) ((hearM cl (fm 0) ((upN ai' 0 q) 0) (sna 0) wd (wma 0) (spa 0) (hea 0) (2 ^ (wma 0) - 1)).1) ((hearM cl (fm 0) ((upN ai' 0 q) 0) (sna 0) wd (wma 0) (spa 0) (hea 0) (2 ^ (wma 0) - 1)).2) (by omega) (Or.inr ⟨rfl, by omega, by rw [hmo, hq1]⟩) (by omega) (by omega) (by rw [upN_n (by omega)]; exact hai1) (by omega) _ _ (hP.sub [2, 3, 4, 5, 6, 7, 8, 9, 10, 11, 12, 0, 1, 13, 14] rfl) (hD.sub [2, 3, 4, 5, 6, 7, 8, 9, 10, 11, 12, 0, 1, 13, 14] rfl rfl) hS _ (lv_sub hl [0, 2, 1, 3, 4] rfl)
          · have hq1 : q ≤ tt := by apply Classical.byContradiction; intro hc; have e : q = tt + 1 := (by omega); have hh : cntClr cl (fm 0) q (sna 0) wd (wma 0) (spa 0) (hea 0) = wma 0 := (by assumption); rw [e] at hh; exact hstop (by omega) hh
            refine lv_iconst (v := (nI 1)) hx hb dX7_thick_59 (by decide) ?_
            refine lv_goto (tgt := 64) hx hb dX7_thick_60 (by decide) ?_
            refine lv_istore_n (lv' := [(3, .int (nI 1)), (4, .int (nI q)), (2, .int (iI mo')), (1, .int (nI (ai 0))), (0, .ref rr)]) hx hb dX7_thick_64 rfl hl (by decide) rfl (fun ls hl => ?_)
            refine lv_iload_n hx hb dX7_thick_65 rfl (lv_at hl 0 rfl) ?_
            refine x_if_eq (tgt := 74) hx hb dX7_thick_66 (by decide) (by omega) (fun h11 => False.elim (by omega)) (fun h11 => ?_)
            refine lv_iload hx hb dX7_thick_69 (lv_at hl 1 rfl) ?_
            refine lv_goto (tgt := 75) hx hb dX7_thick_71 (by decide) ?_
            refine lv_istore_n (lv' := [(2, .int (nI q)), (3, .int (nI 1)), (4, .int (nI q)), (1, .int (nI (ai 0))), (0, .ref rr)]) hx hb dX7_thick_75 rfl hl (by decide) rfl (fun ls hl => ?_)
            refine lv_iinc (v := (nI (q + 1))) (lv' := [(4, .int (nI (q + 1))), (2, .int (nI q)), (3, .int (nI 1)), (1, .int (nI (ai 0))), (0, .ref rr)]) hx hb dX7_thick_76 hl (k := 2) rfl (nI_inc _ 1) (by decide) rfl (fun ls hl => ?_)
            refine lv_goto (tgt := 15) hx hb dX7_thick_79 (by decide) ?_
            rw [show nI (q) = iI (thv (q + 1)) from by rw [nI_iI, thv_s (by omega)]] at hl
            exact ih15 (q + 1) 1 (thv (q + 1)) (upN ai' 0 q) ((hearM cl (fm 0) ((upN ai' 0 q) 0) (sna 0) wd (wma 0) (spa 0) (hea 0) (2 ^ (wma 0) - 1)).1) ((hearM cl (fm 0) ((upN ai' 0 q) 0) (sna 0) wd (wma 0) (spa 0) (hea 0) (2 ^ (wma 0) - 1)).2) (by omega) (Or.inl ⟨rfl, by omega, rfl⟩) (by omega) (by omega) (by rw [upN_n (by omega)]; exact hai1) (by omega) _ _ (hP.sub [2, 3, 4, 5, 6, 7, 8, 9, 10, 11, 12, 0, 1, 13, 14] rfl) (hD.sub [2, 3, 4, 5, 6, 7, 8, 9, 10, 11, 12, 0, 1, 13, 14] rfl rfl) hS _ (lv_sub hl [0, 2, 1, 3, 4] rfl)
  exact loop15 _ 1 1 (-4) ai lg vg (Nat.lt_succ_self _) (Or.inl ⟨rfl, by omega, thv_1.symm⟩) (by omega) (by omega) rfl (by omega) _ _ (hP.sub [0, 1, 2, 3, 4, 5, 6, 7, 8, 9, 10, 11, 12, 13, 14] rfl) (hD.sub [0, 1, 2, 3, 4, 5, 6, 7, 8, 9, 10, 11, 12, 13, 14] rfl rfl) hS _ (lv_sub hl [0, 1, 2, 3, 4] rfl)
