theorem bitsM_bit {c : Nat → Bool} {w : Nat} : ∀ {n : Nat}, w < n → bitsM c n / 2 ^ w % 2 = if c w then 1 else 0 := by
  intro n
  induction n with
  | zero => intro h; omega
  | succ n ih =>
    intro h
    have hlt := bitsM_lt c n
    show (bitsM c n + (if c n then 2 ^ n else 0)) / 2 ^ w % 2 = _
    by_cases e : w = n
    · subst e
      cases hc : c w with
      | true =>
        rw [if_pos rfl, if_pos rfl, Nat.add_div_right _ (Nat.two_pow_pos w), Nat.div_eq_of_lt hlt]
      | false =>
        rw [if_neg (by decide), if_neg (by decide), Nat.add_zero, Nat.div_eq_of_lt hlt]
    · have hw : w < n := by omega
      rw [← ih hw]
      cases hc : c n with
      | true =>
        rw [if_pos rfl, show 2 ^ n = 2 ^ w * (2 * 2 ^ (n - w - 1)) from by rw [← Nat.pow_succ', ← Nat.pow_add]; congr 1; omega, Nat.add_mul_div_left _ _ (Nat.two_pow_pos w)]
        omega
      | false => rw [if_neg (by decide), Nat.add_zero]
theorem clr_bit {cl : Nat → Nat} {nc air sn : Nat} {wd : Nat → Nat} {nw x y w : Nat} {b : Bool} (hn : nw ≤ 8) (hw : w < nw) (h : hitM (hearM cl nc air sn wd nw x y (2 ^ nw - 1)) wd w 0 (absd x y) (air * absd x y) = b) : clrM cl nc air sn wd nw x y (2 ^ nw - 1) / 2 ^ w % 2 = if b then 1 else 0 := by
  unfold clrM
  rw [bitsM_bit hw, onS_all hn hw, h, Bool.true_and]

set_option maxRecDepth 100000 in
set_option maxHeartbeats 4000000 in
theorem c_X7_word_3 (l : Launch) (D : va_G) (cI cC : ClassId) (rr : Nat) (ad : Nat → Nat) (len : Nat) (kp : Nat) (uo : Nat) (tm : Nat) (em : Nat) (pc0 : Nat) (fm : Nat → Nat) (pq : Nat → Nat) (dq : Nat → Nat) (kq : Nat → Nat) (ai : Nat → Nat) (sna : Nat → Nat) (wma : Nat → Nat) (be : Nat → Nat) (va : Nat → Nat) (lo : Nat → Nat) (spa : Nat → Nat) (hea : Nat → Nat) (lg : Nat → Nat) (vg : Nat → Nat) (cl : Nat → Nat) (hrc : relC pq dq kq cl (fm 0)) (hok : okC cl (fm 0)) (hfm : fm 0 ≤ 4 ∧ ai 0 ≤ 99 ∧ sna 0 < 2147483648) (wd : Nat → Nat) (hrd : relD be va lo wd (wma 0)) (hokd : okD wd (wma 0)) (hnw : wma 0 ≤ 8) (hsp : spa 0 ≤ 40 ∧ hea 0 ≤ 40) (f : Nat) (hff : f < wma 0) : mtI l D cI cC yX7_word wsX7_word ({ frames := 4, cells := 0, slots := 0, locals := 98 }) [.ref rr, .int (nI f), .int (nI 3)] [(rr, eMod ad len kp uo tm em pc0), (ad 2, eArr cI 2 fm), (ad 3, eArr cI 8 pq), (ad 4, eArr cI 8 dq), (ad 5, eArr cI 8 kq), (ad 6, eArr cI 2 ai), (ad 13, eArr cI 4 sna), (ad 7, eArr cI 4 wma), (ad 8, eArr cI 32 be), (ad 9, eArr cI 32 va), (ad 10, eArr cI 32 lo), (ad 11, eArr cI 4 spa), (ad 12, eArr cI 4 hea), (ad 20, eArr cI 150 lg), (ad 21, eArr cI 150 vg)] (fun (r : Int32) (_ : Unit) => r = (nI (clrM cl (fm 0) (ai 0) (sna 0) wd (wma 0) (spa 0) (hea 0) (2 ^ (wma 0) - 1) / 2 ^ f % 2))) (fun (_ : Unit) => [(rr, eMod ad len kp uo tm em pc0), (ad 2, eArr cI 2 fm), (ad 3, eArr cI 8 pq), (ad 4, eArr cI 8 dq), (ad 5, eArr cI 8 kq), (ad 6, eArr cI 2 ai), (ad 13, eArr cI 4 sna), (ad 7, eArr cI 4 wma), (ad 8, eArr cI 32 be), (ad 9, eArr cI 32 va), (ad 10, eArr cI 32 lo), (ad 11, eArr cI 4 spa), (ad 12, eArr cI 4 hea), (ad 20, eArr cI 150 ((hearM cl (fm 0) (ai 0) (sna 0) wd (wma 0) (spa 0) (hea 0) (2 ^ (wma 0) - 1)).1)), (ad 21, eArr cI 150 ((hearM cl (fm 0) (ai 0) (sna 0) wd (wma 0) (spa 0) (hea 0) (2 ^ (wma 0) - 1)).2))]) := by
  refine mtI_of (cc := cX7_word) (maxL := 3) (ret := (some .int)) (by decide) rfl rfl ?_
  intro p e s m below meth c A hx hb hml hr hts hown hlocks hN hA hK hP hD hS ls hl
  have hown : s.vm.findClass RX7 = some m.cls := hown
  have hl : lv_has ls 3 [(0, .ref rr), (1, .int (nI f)), (2, .int (nI 3))] := hl
  obtain ⟨H, hHe⟩ : ∃ H, H = s.heap := ⟨_, rfl⟩
  rw [← hHe] at hP ⊢
  have hS : va_S A s.heap H [] := by rw [hHe]; exact va_S.rf
  have fl28 := hts (.fieldLink RX7 28 "EchoPaysRentModel" "wordMany" "[I") (by decide +kernel)
  have inX7 : ∀ w ∈ wsX70, w ∈ wsX7_word := by decide +kernel
  have fl40 := hts (.fieldLink RX7 40 "EchoPaysRentModel" "speaker" "[I") (by decide +kernel)
  have fl43 := hts (.fieldLink RX7 43 "EchoPaysRentModel" "hearer" "[I") (by decide +kernel)
  refine lv_iload_n hx hb dX7_word_0 rfl (lv_at hl 1 rfl) ?_
  refine n_i2l hx hb dX7_word_1 (by omega) ?_
  refine lv_lconst (v := lN 0) hx hb dX7_word_2 rfl ?_
  refine lv_aload_n hx hb dX7_word_3 rfl (lv_at hl 0 rfl) ?_
  refine va_get (D := D) (ci := 7) (v := .ref (ad 7)) (C := RX7) (T := TX7) (N := 28) hx hb hts inX7 hown hK hP 0 rfl rfl 7 (by decide) fl28 (fun _ h9 => h9) rfl dX7_word_4 ?_
  refine lv_iconst (v := (nI 0)) hx hb dX7_word_7 (by decide) ?_
  refine x_iald (A := A) hx hb hK hP 7 0 rfl rfl dX7_word_8 (by omega) (by omega) ?_
  refine lv_iconst (v := (nI 1)) hx hb dX7_word_9 (by decide) ?_
  refine x_isub hx hb dX7_word_10 (by omega) ?_
  refine n_i2l hx hb dX7_word_11 (by omega) ?_
  refine k_S (As := [.long (lI (((f : Nat) : Int))), .long (lI (((0 : Nat) : Int))), .long (lI (((wma 0 - 1 : Nat) : Int)))]) (wr := [(rr, eMod ad len kp uo tm em pc0), (ad 2, eArr cI 2 fm), (ad 3, eArr cI 8 pq), (ad 4, eArr cI 8 dq), (ad 5, eArr cI 8 kq), (ad 6, eArr cI 2 ai), (ad 13, eArr cI 4 sna), (ad 7, eArr cI 4 wma), (ad 8, eArr cI 32 be), (ad 9, eArr cI 32 va), (ad 10, eArr cI 32 lo), (ad 11, eArr cI 4 spa), (ad 12, eArr cI 4 hea), (ad 20, eArr cI 150 lg), (ad 21, eArr cI 150 vg)]) ⟨hx, hb, hml, hown, hts⟩ (c_X7_in l D cI cC (((f : Nat) : Int)) (((0 : Nat) : Int)) (((wma 0 - 1 : Nat) : Int)) (by omega) (by omega) (by omega)) (cwS 3 hts gX7_word_X7_in rfl rfl rfl (by decide +kernel) ⟨Nat.le_of_ble_eq_true rfl, Nat.le_of_ble_eq_true rfl⟩) rfl hl.1 (by simp only [nI_iI, lN_lI]; rfl) (Nat.le_of_ble_eq_true rfl) dX7_word_12 ⟨Nat.zero_le _, Nat.zero_le _⟩ hN hK hP hD hS hA [] [0, 1, 2, 3, 4, 5, 6, 7, 8, 9, 10, 11, 12, 13, 14] rfl rfl ⟨rfl, rfl, by decide⟩ (fun r1 u H locs w2 hP hD hS => ?_)
  obtain ⟨rfl, h3, h4⟩ | ⟨rfl, h5⟩ : (r1 = (nI 1) ∧ (((0 : Nat) : Int)) ≤ (((f : Nat) : Int)) ∧ (((f : Nat) : Int)) ≤ (((wma 0 - 1 : Nat) : Int))) ∨ (r1 = (nI 0) ∧ ((((f : Nat) : Int)) < (((0 : Nat) : Int)) ∨ (((wma 0 - 1 : Nat) : Int)) < (((f : Nat) : Int)))) := w2
  · refine x_if_eq (tgt := 30) hx hb dX7_word_15 (by decide) (by omega) (fun h6 => False.elim (by omega)) (fun h6 => ?_)
    refine lv_iload_n hx hb dX7_word_18 rfl (lv_at hl 2 rfl) ?_
    refine n_i2l hx hb dX7_word_19 (by omega) ?_
    refine lv_lconst (v := lN 0) hx hb dX7_word_20 rfl ?_
    refine lv_ldc2 (v := lN 3) hx hb hown (hts (.constantLong RX7 184 3) (by decide +kernel)) dX7_word_21 ?_
    refine k_S (As := [.long (lI (((3 : Nat) : Int))), .long (lI (((0 : Nat) : Int))), .long (lI (((3 : Nat) : Int)))]) (wr := [(rr, eMod ad len kp uo tm em pc0), (ad 2, eArr cI 2 fm), (ad 3, eArr cI 8 pq), (ad 4, eArr cI 8 dq), (ad 5, eArr cI 8 kq), (ad 6, eArr cI 2 ai), (ad 13, eArr cI 4 sna), (ad 7, eArr cI 4 wma), (ad 8, eArr cI 32 be), (ad 9, eArr cI 32 va), (ad 10, eArr cI 32 lo), (ad 11, eArr cI 4 spa), (ad 12, eArr cI 4 hea), (ad 20, eArr cI 150 lg), (ad 21, eArr cI 150 vg)]) ⟨hx, hb, hml, hown, hts⟩ (c_X7_in l D cI cC (((3 : Nat) : Int)) (((0 : Nat) : Int)) (((3 : Nat) : Int)) (by omega) (by omega) (by omega)) (cwS 3 hts gX7_word_X7_in rfl rfl rfl (by decide +kernel) ⟨Nat.le_of_ble_eq_true rfl, Nat.le_of_ble_eq_true rfl⟩) rfl hl.1 (by simp only [nI_iI, lN_lI]; rfl) (Nat.le_of_ble_eq_true rfl) dX7_word_24 ⟨Nat.zero_le _, Nat.zero_le _⟩ hN hK hP hD hS hA [] [0, 1, 2, 3, 4, 5, 6, 7, 8, 9, 10, 11, 12, 13, 14] rfl rfl ⟨rfl, rfl, by decide⟩ (fun r7 u H locs w8 hP hD hS => ?_)
    obtain ⟨rfl, h9, h10⟩ | ⟨rfl, h11⟩ : (r7 = (nI 1) ∧ (((0 : Nat) : Int)) ≤ (((3 : Nat) : Int)) ∧ (((3 : Nat) : Int)) ≤ (((3 : Nat) : Int))) ∨ (r7 = (nI 0) ∧ ((((3 : Nat) : Int)) < (((0 : Nat) : Int)) ∨ (((3 : Nat) : Int)) < (((3 : Nat) : Int)))) := w8
    · refine x_if_ne (tgt := 32) hx hb dX7_word_27 (by decide) (by omega) (fun h12 => ?_) (fun h12 => False.elim (by omega))
      refine lv_iload_n hx hb dX7_word_32 rfl (lv_at hl 2 rfl) ?_
      refine lv_iconst (v := (nI 3)) hx hb dX7_word_33 (by decide) ?_
      refine x_icmp_ne (tgt := 81) hx hb dX7_word_34 (by decide) (by omega) (by omega) (fun h13 => False.elim (by omega)) (fun h13 => ?_)
      refine lv_aload_n hx hb dX7_word_37 rfl (lv_at hl 0 rfl) ?_
      refine lv_aload_n hx hb dX7_word_38 rfl (lv_at hl 0 rfl) ?_
      refine va_get (D := D) (ci := 7) (v := .ref (ad 11)) (C := RX7) (T := TX7) (N := 28) hx hb hts inX7 hown hK hP 0 rfl rfl 11 (by decide) fl40 (fun _ h9 => h9) rfl dX7_word_39 ?_
      refine lv_iconst (v := (nI 0)) hx hb dX7_word_42 (by decide) ?_
      refine x_iald (A := A) hx hb hK hP 11 0 rfl rfl dX7_word_43 (by omega) (by omega) ?_
      refine lv_aload_n hx hb dX7_word_44 rfl (lv_at hl 0 rfl) ?_
      refine va_get (D := D) (ci := 7) (v := .ref (ad 12)) (C := RX7) (T := TX7) (N := 28) hx hb hts inX7 hown hK hP 0 rfl rfl 12 (by decide) fl43 (fun _ h9 => h9) rfl dX7_word_45 ?_
      refine lv_iconst (v := (nI 0)) hx hb dX7_word_48 (by decide) ?_
      refine x_iald (A := A) hx hb hK hP 12 0 rfl rfl dX7_word_49 (by omega) (by omega) ?_
      refine lv_iconst (v := (nI 0)) hx hb dX7_word_50 (by decide) ?_
      refine k_Vv (q := (RX7, TX7, 28)) (ci := 7) (As := [.int (nI (spa 0)), .int (nI (hea 0)), .int (nI 0)]) (wr := [(ad 11, eArr cI 4 spa), (ad 12, eArr cI 4 hea)]) ⟨hx, hb, hml, hown, hts⟩ (c_X7_sayAll l D cI cC rr ad len kp uo tm em pc0 fm pq dq kq ai sna wma be va lo cl hrc hok (by omega) wd hrd hokd (by omega) (spa 0) (hea 0) (by omega) 0 (Nat.two_pow_pos _) lg vg) (cwV 3 hts gX7_word_X7_sayAll rfl rfl rfl (by decide +kernel) ⟨Nat.le_of_ble_eq_true rfl, Nat.le_of_ble_eq_true rfl⟩) rfl hl.1 rfl (Nat.le_of_ble_eq_true rfl) dX7_word_51 ⟨Nat.zero_le _, Nat.zero_le _⟩ hN hK hP hD hS hA rfl (q0 := 0) rfl [0, 1, 2, 3, 4, 5, 6, 7, 8, 9, 10, 13, 14] [11, 12] rfl rfl ⟨rfl, rfl, by decide⟩ (fun u H locs w15 hP hD hS => ?_)
      have hP : va_P D vwCl [(ad 11, eArr cI 4 spa), (ad 12, eArr cI 4 hea), (rr, eMod ad len kp uo tm em pc0), (ad 2, eArr cI 2 fm), (ad 3, eArr cI 8 pq), (ad 4, eArr cI 8 dq), (ad 5, eArr cI 8 kq), (ad 6, eArr cI 2 ai), (ad 13, eArr cI 4 sna), (ad 7, eArr cI 4 wma), (ad 8, eArr cI 32 be), (ad 9, eArr cI 32 va), (ad 10, eArr cI 32 lo), (ad 20, eArr cI 150 ((hearM cl (fm 0) (ai 0) (sna 0) wd (wma 0) (spa 0) (hea 0) (2 ^ (wma 0) - 1)).1)), (ad 21, eArr cI 150 ((hearM cl (fm 0) (ai 0) (sna 0) wd (wma 0) (spa 0) (hea 0) (2 ^ (wma 0) - 1)).2))] H := by rw [show 2 ^ (wma 0) - 1 = 2 ^ (wma 0) - 1 - 0 from rfl]; exact hP
      have hD : va_D A [(ad 11, eArr cI 4 spa), (ad 12, eArr cI 4 hea), (rr, eMod ad len kp uo tm em pc0), (ad 2, eArr cI 2 fm), (ad 3, eArr cI 8 pq), (ad 4, eArr cI 8 dq), (ad 5, eArr cI 8 kq), (ad 6, eArr cI 2 ai), (ad 13, eArr cI 4 sna), (ad 7, eArr cI 4 wma), (ad 8, eArr cI 32 be), (ad 9, eArr cI 32 va), (ad 10, eArr cI 32 lo), (ad 20, eArr cI 150 ((hearM cl (fm 0) (ai 0) (sna 0) wd (wma 0) (spa 0) (hea 0) (2 ^ (wma 0) - 1)).1)), (ad 21, eArr cI 150 ((hearM cl (fm 0) (ai 0) (sna 0) wd (wma 0) (spa 0) (hea 0) (2 ^ (wma 0) - 1)).2))] := by rw [show 2 ^ (wma 0) - 1 = 2 ^ (wma 0) - 1 - 0 from rfl]; exact hD
      refine lv_aload_n hx hb dX7_word_54 rfl (lv_at hl 0 rfl) ?_
      refine lv_iload_n hx hb dX7_word_55 rfl (lv_at hl 1 rfl) ?_
      refine lv_aload_n hx hb dX7_word_56 rfl (lv_at hl 0 rfl) ?_
      refine va_get (D := D) (ci := 7) (v := .ref (ad 11)) (C := RX7) (T := TX7) (N := 28) hx hb hts inX7 hown hK hP 2 rfl rfl 11 (by decide) fl40 (fun _ h9 => h9) rfl dX7_word_57 ?_
      refine lv_iconst (v := (nI 0)) hx hb dX7_word_60 (by decide) ?_
      refine x_iald (A := A) hx hb hK hP 0 0 rfl rfl dX7_word_61 (by omega) (by omega) ?_
      refine lv_aload_n hx hb dX7_word_62 rfl (lv_at hl 0 rfl) ?_
      refine va_get (D := D) (ci := 7) (v := .ref (ad 12)) (C := RX7) (T := TX7) (N := 28) hx hb hts inX7 hown hK hP 2 rfl rfl 12 (by decide) fl43 (fun _ h9 => h9) rfl dX7_word_63 ?_
      refine lv_iconst (v := (nI 0)) hx hb dX7_word_66 (by decide) ?_
      refine x_iald (A := A) hx hb hK hP 1 0 rfl rfl dX7_word_67 (by omega) (by omega) ?_
      refine lv_iconst (v := (nI 0)) hx hb dX7_word_68 (by decide) ?_
      refine k_V (q := (RX7, TX7, 28)) (ci := 7) (As := [.int (nI f), .int (nI (spa 0)), .int (nI (hea 0)), .int (nI 0)]) (wr := [(ad 11, eArr cI 4 spa), (ad 12, eArr cI 4 hea), (ad 2, eArr cI 2 fm), (ad 3, eArr cI 8 pq), (ad 4, eArr cI 8 dq), (ad 5, eArr cI 8 kq), (ad 13, eArr cI 4 sna), (ad 7, eArr cI 4 wma), (ad 20, eArr cI 150 ((hearM cl (fm 0) (ai 0) (sna 0) wd (wma 0) (spa 0) (hea 0) (2 ^ (wma 0) - 1)).1))]) ⟨hx, hb, hml, hown, hts⟩ (c_X7_isClear l D cI cC rr ad len kp uo tm em pc0 ai be va lo (hearM cl (fm 0) (ai 0) (sna 0) wd (wma 0) (spa 0) (hea 0) (2 ^ (wma 0) - 1)) (wma 0) wd hrd hokd (by omega) hfm.2.1 f (spa 0) (hea 0) (by omega) 0 (by omega) (by omega) (okS_play okS_quiet hokd _ (Nat.le_refl _))) (cwV 4 hts gX7_word_X7_isClear rfl rfl rfl (by decide +kernel) ⟨Nat.le_of_ble_eq_true rfl, Nat.le_of_ble_eq_true rfl⟩) rfl hl.1 rfl (Nat.le_of_ble_eq_true rfl) dX7_word_69 ⟨Nat.zero_le _, Nat.zero_le _⟩ hN hK hP hD hS hA rfl (q0 := 2) rfl [2, 7, 10, 11, 12, 14] [0, 1, 3, 4, 5, 6, 8, 9, 13] rfl rfl ⟨rfl, rfl, by decide⟩ (fun r16 u H locs w17 hP hD hS => ?_)
      obtain ⟨rfl, h18⟩ | ⟨rfl, h19⟩ : (r16 = (nI 1) ∧ hitM (hearM cl (fm 0) (ai 0) (sna 0) wd (wma 0) (spa 0) (hea 0) (2 ^ (wma 0) - 1)) wd f 0 (absd (spa 0) (hea 0)) (ai 0 * absd (spa 0) (hea 0)) = true) ∨ (r16 = (nI 0) ∧ hitM (hearM cl (fm 0) (ai 0) (sna 0) wd (wma 0) (spa 0) (hea 0) (2 ^ (wma 0) - 1)) wd f 0 (absd (spa 0) (hea 0)) (ai 0 * absd (spa 0) (hea 0)) = false) := w17
      · refine x_if_eq (tgt := 79) hx hb dX7_word_72 (by decide) (by omega) (fun h20 => False.elim (by omega)) (fun h20 => ?_)
        refine lv_iconst (v := (nI 1)) hx hb dX7_word_75 (by decide) ?_
        refine lv_goto (tgt := 80) hx hb dX7_word_76 (by decide) ?_
        exact x_iret hx hb hr hlocks dX7_word_80 rfl (post := fun (r : Int32) (_ : Unit) => r = (nI (clrM cl (fm 0) (ai 0) (sna 0) wd (wma 0) (spa 0) (hea 0) (2 ^ (wma 0) - 1) / 2 ^ f % 2))) (w1 := fun (_ : Unit) => [(rr, eMod ad len kp uo tm em pc0), (ad 2, eArr cI 2 fm), (ad 3, eArr cI 8 pq), (ad 4, eArr cI 8 dq), (ad 5, eArr cI 8 kq), (ad 6, eArr cI 2 ai), (ad 13, eArr cI 4 sna), (ad 7, eArr cI 4 wma), (ad 8, eArr cI 32 be), (ad 9, eArr cI 32 va), (ad 10, eArr cI 32 lo), (ad 11, eArr cI 4 spa), (ad 12, eArr cI 4 hea), (ad 20, eArr cI 150 ((hearM cl (fm 0) (ai 0) (sna 0) wd (wma 0) (spa 0) (hea 0) (2 ^ (wma 0) - 1)).1)), (ad 21, eArr cI 150 ((hearM cl (fm 0) (ai 0) (sna 0) wd (wma 0) (spa 0) (hea 0) (2 ^ (wma 0) - 1)).2))]) () (congrArg nI (by rw [clr_bit hnw hff h18]; rfl)) hK (hP.sub [9, 2, 3, 4, 5, 10, 6, 7, 11, 12, 13, 0, 1, 8, 14] rfl) (hD.sub [9, 2, 3, 4, 5, 10, 6, 7, 11, 12, 13, 0, 1, 8, 14] rfl rfl) hS
      · refine x_if_eq (tgt := 79) hx hb dX7_word_72 (by decide) (by omega) (fun h21 => ?_) (fun h21 => False.elim (by omega))
        refine lv_iconst (v := (nI 0)) hx hb dX7_word_79 (by decide) ?_
        exact x_iret hx hb hr hlocks dX7_word_80 rfl (post := fun (r : Int32) (_ : Unit) => r = (nI (clrM cl (fm 0) (ai 0) (sna 0) wd (wma 0) (spa 0) (hea 0) (2 ^ (wma 0) - 1) / 2 ^ f % 2))) (w1 := fun (_ : Unit) => [(rr, eMod ad len kp uo tm em pc0), (ad 2, eArr cI 2 fm), (ad 3, eArr cI 8 pq), (ad 4, eArr cI 8 dq), (ad 5, eArr cI 8 kq), (ad 6, eArr cI 2 ai), (ad 13, eArr cI 4 sna), (ad 7, eArr cI 4 wma), (ad 8, eArr cI 32 be), (ad 9, eArr cI 32 va), (ad 10, eArr cI 32 lo), (ad 11, eArr cI 4 spa), (ad 12, eArr cI 4 hea), (ad 20, eArr cI 150 ((hearM cl (fm 0) (ai 0) (sna 0) wd (wma 0) (spa 0) (hea 0) (2 ^ (wma 0) - 1)).1)), (ad 21, eArr cI 150 ((hearM cl (fm 0) (ai 0) (sna 0) wd (wma 0) (spa 0) (hea 0) (2 ^ (wma 0) - 1)).2))]) () (congrArg nI (by rw [clr_bit hnw hff h19]; rfl)) hK (hP.sub [9, 2, 3, 4, 5, 10, 6, 7, 11, 12, 13, 0, 1, 8, 14] rfl) (hD.sub [9, 2, 3, 4, 5, 10, 6, 7, 11, 12, 13, 0, 1, 8, 14] rfl rfl) hS
    · exact False.elim (by omega)
  · exact False.elim (by omega)

set_option maxRecDepth 100000 in
set_option maxHeartbeats 4000000 in
theorem c_X7_heard_ok (l : Launch) (D : va_G) (cI cC : ClassId) (rr : Nat) (ad : Nat → Nat) (len : Nat) (kp : Nat) (uo : Nat) (tm : Nat) (em : Nat) (pc0 : Nat) (fm : Nat → Nat) (pq : Nat → Nat) (dq : Nat → Nat) (kq : Nat → Nat) (ai : Nat → Nat) (sna : Nat → Nat) (wma : Nat → Nat) (be : Nat → Nat) (va : Nat → Nat) (lo : Nat → Nat) (spa : Nat → Nat) (hea : Nat → Nat) (lg : Nat → Nat) (vg : Nat → Nat) (cl : Nat → Nat) (hrc : relC pq dq kq cl (fm 0)) (hok : okC cl (fm 0)) (hfm : fm 0 ≤ 4 ∧ ai 0 ≤ 99 ∧ sna 0 < 2147483648) (wd : Nat → Nat) (hrd : relD be va lo wd (wma 0)) (hokd : okD wd (wma 0)) (hnw : wma 0 ≤ 8) (hsp : spa 0 ≤ 40) (y : Nat) (b : Nat) (hyb : y ≤ 40 ∧ b ≤ 149) : mtI l D cI cC yX7_heard wsX7_heard ({ frames := 4, cells := 0, slots := 0, locals := 98 }) [.ref rr, .int (nI y), .int (nI b)] [(rr, eMod ad len kp uo tm em pc0), (ad 2, eArr cI 2 fm), (ad 3, eArr cI 8 pq), (ad 4, eArr cI 8 dq), (ad 5, eArr cI 8 kq), (ad 6, eArr cI 2 ai), (ad 13, eArr cI 4 sna), (ad 7, eArr cI 4 wma), (ad 8, eArr cI 32 be), (ad 9, eArr cI 32 va), (ad 10, eArr cI 32 lo), (ad 11, eArr cI 4 spa), (ad 12, eArr cI 4 hea), (ad 20, eArr cI 150 lg), (ad 21, eArr cI 150 vg)] (fun (r : Int32) (_ : Unit) => r = (nI ((hearM cl (fm 0) (ai 0) (sna 0) wd (wma 0) (spa 0) y (2 ^ (wma 0) - 1)).2 b))) (fun (_ : Unit) => [(rr, eMod ad len kp uo tm em pc0), (ad 2, eArr cI 2 fm), (ad 3, eArr cI 8 pq), (ad 4, eArr cI 8 dq), (ad 5, eArr cI 8 kq), (ad 6, eArr cI 2 ai), (ad 13, eArr cI 4 sna), (ad 7, eArr cI 4 wma), (ad 8, eArr cI 32 be), (ad 9, eArr cI 32 va), (ad 10, eArr cI 32 lo), (ad 11, eArr cI 4 spa), (ad 12, eArr cI 4 hea), (ad 20, eArr cI 150 ((hearM cl (fm 0) (ai 0) (sna 0) wd (wma 0) (spa 0) y (2 ^ (wma 0) - 1)).1)), (ad 21, eArr cI 150 ((hearM cl (fm 0) (ai 0) (sna 0) wd (wma 0) (spa 0) y (2 ^ (wma 0) - 1)).2))]) := by
  refine mtI_of (cc := cX7_heard) (maxL := 3) (ret := (some .int)) (by decide) rfl rfl ?_
  intro p e s m below meth c A hx hb hml hr hts hown hlocks hN hA hK hP hD hS ls hl
  have hown : s.vm.findClass RX7 = some m.cls := hown
  have hl : lv_has ls 3 [(0, .ref rr), (1, .int (nI y)), (2, .int (nI b))] := hl
  obtain ⟨H, hHe⟩ : ∃ H, H = s.heap := ⟨_, rfl⟩
  rw [← hHe] at hP ⊢
  have hS : va_S A s.heap H [] := by rw [hHe]; exact va_S.rf
  have fl40 := hts (.fieldLink RX7 40 "EchoPaysRentModel" "speaker" "[I") (by decide +kernel)
  have inX7 : ∀ w ∈ wsX70, w ∈ wsX7_heard := by decide +kernel
  have fl70 := hts (.fieldLink RX7 70 "EchoPaysRentModel" "what" "[I") (by decide +kernel)
  refine lv_iload_n hx hb dX7_heard_0 rfl (lv_at hl 1 rfl) ?_
  refine k_S (As := [.int (iI (((y : Nat) : Int)))]) (wr := [(rr, eMod ad len kp uo tm em pc0), (ad 2, eArr cI 2 fm), (ad 3, eArr cI 8 pq), (ad 4, eArr cI 8 dq), (ad 5, eArr cI 8 kq), (ad 6, eArr cI 2 ai), (ad 13, eArr cI 4 sna), (ad 7, eArr cI 4 wma), (ad 8, eArr cI 32 be), (ad 9, eArr cI 32 va), (ad 10, eArr cI 32 lo), (ad 11, eArr cI 4 spa), (ad 12, eArr cI 4 hea), (ad 20, eArr cI 150 lg), (ad 21, eArr cI 150 vg)]) ⟨hx, hb, hml, hown, hts⟩ (c_X7_isYard l D cI cC (((y : Nat) : Int)) (by omega)) (cwS 1 hts gX7_heard_X7_isYard rfl rfl rfl (by decide +kernel) ⟨Nat.le_of_ble_eq_true rfl, Nat.le_of_ble_eq_true rfl⟩) rfl hl.1 (by simp only [nI_iI]; rfl) (Nat.le_of_ble_eq_true rfl) dX7_heard_1 ⟨Nat.zero_le _, Nat.zero_le _⟩ hN hK hP hD hS hA [] [0, 1, 2, 3, 4, 5, 6, 7, 8, 9, 10, 11, 12, 13, 14] rfl rfl ⟨rfl, rfl, by decide⟩ (fun r1 u H locs w2 hP hD hS => ?_)
  obtain ⟨rfl, h3, h4⟩ | ⟨rfl, h5⟩ : (r1 = (nI 1) ∧ 0 ≤ (((y : Nat) : Int)) ∧ (((y : Nat) : Int)) ≤ 40) ∨ (r1 = (nI 0) ∧ ((((y : Nat) : Int)) < 0 ∨ 40 < (((y : Nat) : Int)))) := w2
  · refine x_if_eq (tgt := 19) hx hb dX7_heard_4 (by decide) (by omega) (fun h6 => False.elim (by omega)) (fun h6 => ?_)
    refine lv_iload_n hx hb dX7_heard_7 rfl (lv_at hl 2 rfl) ?_
    refine n_i2l hx hb dX7_heard_8 (by omega) ?_
    refine lv_lconst (v := lN 0) hx hb dX7_heard_9 rfl ?_
    refine lv_ldc2 (v := lN 149) hx hb hown (hts (.constantLong RX7 189 149) (by decide +kernel)) dX7_heard_10 ?_
    refine k_S (As := [.long (lI (((b : Nat) : Int))), .long (lI (((0 : Nat) : Int))), .long (lI (((149 : Nat) : Int)))]) (wr := [(rr, eMod ad len kp uo tm em pc0), (ad 2, eArr cI 2 fm), (ad 3, eArr cI 8 pq), (ad 4, eArr cI 8 dq), (ad 5, eArr cI 8 kq), (ad 6, eArr cI 2 ai), (ad 13, eArr cI 4 sna), (ad 7, eArr cI 4 wma), (ad 8, eArr cI 32 be), (ad 9, eArr cI 32 va), (ad 10, eArr cI 32 lo), (ad 11, eArr cI 4 spa), (ad 12, eArr cI 4 hea), (ad 20, eArr cI 150 lg), (ad 21, eArr cI 150 vg)]) ⟨hx, hb, hml, hown, hts⟩ (c_X7_in l D cI cC (((b : Nat) : Int)) (((0 : Nat) : Int)) (((149 : Nat) : Int)) (by omega) (by omega) (by omega)) (cwS 3 hts gX7_heard_X7_in rfl rfl rfl (by decide +kernel) ⟨Nat.le_of_ble_eq_true rfl, Nat.le_of_ble_eq_true rfl⟩) rfl hl.1 (by simp only [nI_iI, lN_lI]; rfl) (Nat.le_of_ble_eq_true rfl) dX7_heard_13 ⟨Nat.zero_le _, Nat.zero_le _⟩ hN hK hP hD hS hA [] [0, 1, 2, 3, 4, 5, 6, 7, 8, 9, 10, 11, 12, 13, 14] rfl rfl ⟨rfl, rfl, by decide⟩ (fun r7 u H locs w8 hP hD hS => ?_)
    obtain ⟨rfl, h9, h10⟩ | ⟨rfl, h11⟩ : (r7 = (nI 1) ∧ (((0 : Nat) : Int)) ≤ (((b : Nat) : Int)) ∧ (((b : Nat) : Int)) ≤ (((149 : Nat) : Int))) ∨ (r7 = (nI 0) ∧ ((((b : Nat) : Int)) < (((0 : Nat) : Int)) ∨ (((149 : Nat) : Int)) < (((b : Nat) : Int)))) := w8
    · refine x_if_ne (tgt := 21) hx hb dX7_heard_16 (by decide) (by omega) (fun h12 => ?_) (fun h12 => False.elim (by omega))
      refine lv_aload_n hx hb dX7_heard_21 rfl (lv_at hl 0 rfl) ?_
      refine lv_aload_n hx hb dX7_heard_22 rfl (lv_at hl 0 rfl) ?_
      refine va_get (D := D) (ci := 7) (v := .ref (ad 11)) (C := RX7) (T := TX7) (N := 28) hx hb hts inX7 hown hK hP 0 rfl rfl 11 (by decide) fl40 (fun _ h9 => h9) rfl dX7_heard_23 ?_
      refine lv_iconst (v := (nI 0)) hx hb dX7_heard_26 (by decide) ?_
      refine x_iald (A := A) hx hb hK hP 11 0 rfl rfl dX7_heard_27 (by omega) (by omega) ?_
      refine lv_iload_n hx hb dX7_heard_28 rfl (lv_at hl 1 rfl) ?_
      refine lv_iconst (v := (nI 0)) hx hb dX7_heard_29 (by decide) ?_
      refine k_Vv (q := (RX7, TX7, 28)) (ci := 7) (As := [.int (nI (spa 0)), .int (nI y), .int (nI 0)]) (wr := [(ad 11, eArr cI 4 spa), (ad 12, eArr cI 4 hea)]) ⟨hx, hb, hml, hown, hts⟩ (c_X7_sayAll l D cI cC rr ad len kp uo tm em pc0 fm pq dq kq ai sna wma be va lo cl hrc hok (by omega) wd hrd hokd (by omega) (spa 0) y (by omega) 0 (Nat.two_pow_pos _) lg vg) (cwV 3 hts gX7_heard_X7_sayAll rfl rfl rfl (by decide +kernel) ⟨Nat.le_of_ble_eq_true rfl, Nat.le_of_ble_eq_true rfl⟩) rfl hl.1 rfl (Nat.le_of_ble_eq_true rfl) dX7_heard_30 ⟨Nat.zero_le _, Nat.zero_le _⟩ hN hK hP hD hS hA rfl (q0 := 0) rfl [0, 1, 2, 3, 4, 5, 6, 7, 8, 9, 10, 13, 14] [11, 12] rfl rfl ⟨rfl, rfl, by decide⟩ (fun u H locs w14 hP hD hS => ?_)
      have hP : va_P D vwCl [(ad 11, eArr cI 4 spa), (ad 12, eArr cI 4 hea), (rr, eMod ad len kp uo tm em pc0), (ad 2, eArr cI 2 fm), (ad 3, eArr cI 8 pq), (ad 4, eArr cI 8 dq), (ad 5, eArr cI 8 kq), (ad 6, eArr cI 2 ai), (ad 13, eArr cI 4 sna), (ad 7, eArr cI 4 wma), (ad 8, eArr cI 32 be), (ad 9, eArr cI 32 va), (ad 10, eArr cI 32 lo), (ad 20, eArr cI 150 ((hearM cl (fm 0) (ai 0) (sna 0) wd (wma 0) (spa 0) y (2 ^ (wma 0) - 1)).1)), (ad 21, eArr cI 150 ((hearM cl (fm 0) (ai 0) (sna 0) wd (wma 0) (spa 0) y (2 ^ (wma 0) - 1)).2))] H := by rw [show 2 ^ (wma 0) - 1 = 2 ^ (wma 0) - 1 - 0 from rfl]; exact hP
      have hD : va_D A [(ad 11, eArr cI 4 spa), (ad 12, eArr cI 4 hea), (rr, eMod ad len kp uo tm em pc0), (ad 2, eArr cI 2 fm), (ad 3, eArr cI 8 pq), (ad 4, eArr cI 8 dq), (ad 5, eArr cI 8 kq), (ad 6, eArr cI 2 ai), (ad 13, eArr cI 4 sna), (ad 7, eArr cI 4 wma), (ad 8, eArr cI 32 be), (ad 9, eArr cI 32 va), (ad 10, eArr cI 32 lo), (ad 20, eArr cI 150 ((hearM cl (fm 0) (ai 0) (sna 0) wd (wma 0) (spa 0) y (2 ^ (wma 0) - 1)).1)), (ad 21, eArr cI 150 ((hearM cl (fm 0) (ai 0) (sna 0) wd (wma 0) (spa 0) y (2 ^ (wma 0) - 1)).2))] := by rw [show 2 ^ (wma 0) - 1 = 2 ^ (wma 0) - 1 - 0 from rfl]; exact hD
      refine lv_aload_n hx hb dX7_heard_33 rfl (lv_at hl 0 rfl) ?_
      refine va_get (D := D) (ci := 7) (v := .ref (ad 21)) (C := RX7) (T := TX7) (N := 28) hx hb hts inX7 hown hK hP 2 rfl rfl 26 (by decide) fl70 (fun _ h9 => h9) rfl dX7_heard_34 ?_
      refine lv_iload_n hx hb dX7_heard_37 rfl (lv_at hl 2 rfl) ?_
      refine x_iald (A := A) hx hb hK hP 14 0 rfl rfl dX7_heard_38 (by omega) (by omega) ?_
      exact x_iret hx hb hr hlocks dX7_heard_39 rfl (post := fun (r : Int32) (_ : Unit) => r = (nI ((hearM cl (fm 0) (ai 0) (sna 0) wd (wma 0) (spa 0) y (2 ^ (wma 0) - 1)).2 b))) (w1 := fun (_ : Unit) => [(rr, eMod ad len kp uo tm em pc0), (ad 2, eArr cI 2 fm), (ad 3, eArr cI 8 pq), (ad 4, eArr cI 8 dq), (ad 5, eArr cI 8 kq), (ad 6, eArr cI 2 ai), (ad 13, eArr cI 4 sna), (ad 7, eArr cI 4 wma), (ad 8, eArr cI 32 be), (ad 9, eArr cI 32 va), (ad 10, eArr cI 32 lo), (ad 11, eArr cI 4 spa), (ad 12, eArr cI 4 hea), (ad 20, eArr cI 150 ((hearM cl (fm 0) (ai 0) (sna 0) wd (wma 0) (spa 0) y (2 ^ (wma 0) - 1)).1)), (ad 21, eArr cI 150 ((hearM cl (fm 0) (ai 0) (sna 0) wd (wma 0) (spa 0) y (2 ^ (wma 0) - 1)).2))]) () rfl hK (hP.sub [2, 3, 4, 5, 6, 7, 8, 9, 10, 11, 12, 0, 1, 13, 14] rfl) (hD.sub [2, 3, 4, 5, 6, 7, 8, 9, 10, 11, 12, 0, 1, 13, 14] rfl rfl) hS
    · exact False.elim (by omega)
  · exact False.elim (by omega)

set_option maxRecDepth 100000 in
set_option maxHeartbeats 4000000 in
theorem c_X7_clear_ok (l : Launch) (D : va_G) (cI cC : ClassId) (rr : Nat) (ad : Nat → Nat) (len : Nat) (kp : Nat) (uo : Nat) (tm : Nat) (em : Nat) (pc0 : Nat) (fm : Nat → Nat) (pq : Nat → Nat) (dq : Nat → Nat) (kq : Nat → Nat) (ai : Nat → Nat) (sna : Nat → Nat) (wma : Nat → Nat) (be : Nat → Nat) (va : Nat → Nat) (lo : Nat → Nat) (spa : Nat → Nat) (hea : Nat → Nat) (lg : Nat → Nat) (vg : Nat → Nat) (cl : Nat → Nat) (hrc : relC pq dq kq cl (fm 0)) (hok : okC cl (fm 0)) (hfm : fm 0 ≤ 4 ∧ ai 0 ≤ 99 ∧ sna 0 < 2147483648) (wd : Nat → Nat) (hrd : relD be va lo wd (wma 0)) (hokd : okD wd (wma 0)) (hnw : wma 0 ≤ 8) (hsp : spa 0 ≤ 40) (y : Nat) (hyb : y ≤ 40) : mtI l D cI cC yX7_clear wsX7_clear ({ frames := 5, cells := 0, slots := 0, locals := 120 }) [.ref rr, .int (nI y)] [(rr, eMod ad len kp uo tm em pc0), (ad 2, eArr cI 2 fm), (ad 3, eArr cI 8 pq), (ad 4, eArr cI 8 dq), (ad 5, eArr cI 8 kq), (ad 6, eArr cI 2 ai), (ad 13, eArr cI 4 sna), (ad 7, eArr cI 4 wma), (ad 8, eArr cI 32 be), (ad 9, eArr cI 32 va), (ad 10, eArr cI 32 lo), (ad 11, eArr cI 4 spa), (ad 12, eArr cI 4 hea), (ad 20, eArr cI 150 lg), (ad 21, eArr cI 150 vg)] (fun (r : Int32) (_ : Unit) => r = (nI (cntClr cl (fm 0) (ai 0) (sna 0) wd (wma 0) (spa 0) y))) (fun (_ : Unit) => [(rr, eMod ad len kp uo tm em pc0), (ad 2, eArr cI 2 fm), (ad 3, eArr cI 8 pq), (ad 4, eArr cI 8 dq), (ad 5, eArr cI 8 kq), (ad 6, eArr cI 2 ai), (ad 13, eArr cI 4 sna), (ad 7, eArr cI 4 wma), (ad 8, eArr cI 32 be), (ad 9, eArr cI 32 va), (ad 10, eArr cI 32 lo), (ad 11, eArr cI 4 spa), (ad 12, eArr cI 4 hea), (ad 20, eArr cI 150 ((hearM cl (fm 0) (ai 0) (sna 0) wd (wma 0) (spa 0) y (2 ^ (wma 0) - 1)).1)), (ad 21, eArr cI 150 ((hearM cl (fm 0) (ai 0) (sna 0) wd (wma 0) (spa 0) y (2 ^ (wma 0) - 1)).2))]) := by
  refine mtI_of (cc := cX7_clear) (maxL := 2) (ret := (some .int)) (by decide) rfl rfl ?_
  intro p e s m below meth c A hx hb hml hr hts hown hlocks hN hA hK hP hD hS ls hl
  have hown : s.vm.findClass RX7 = some m.cls := hown
  have hl : lv_has ls 2 [(0, .ref rr), (1, .int (nI y))] := hl
  obtain ⟨H, hHe⟩ : ∃ H, H = s.heap := ⟨_, rfl⟩
  rw [← hHe] at hP ⊢
  have hS : va_S A s.heap H [] := by rw [hHe]; exact va_S.rf
  have fl40 := hts (.fieldLink RX7 40 "EchoPaysRentModel" "speaker" "[I") (by decide +kernel)
  have inX7 : ∀ w ∈ wsX70, w ∈ wsX7_clear := by decide +kernel
  refine lv_iload_n hx hb dX7_clear_0 rfl (lv_at hl 1 rfl) ?_
  refine k_S (As := [.int (iI (((y : Nat) : Int)))]) (wr := [(rr, eMod ad len kp uo tm em pc0), (ad 2, eArr cI 2 fm), (ad 3, eArr cI 8 pq), (ad 4, eArr cI 8 dq), (ad 5, eArr cI 8 kq), (ad 6, eArr cI 2 ai), (ad 13, eArr cI 4 sna), (ad 7, eArr cI 4 wma), (ad 8, eArr cI 32 be), (ad 9, eArr cI 32 va), (ad 10, eArr cI 32 lo), (ad 11, eArr cI 4 spa), (ad 12, eArr cI 4 hea), (ad 20, eArr cI 150 lg), (ad 21, eArr cI 150 vg)]) ⟨hx, hb, hml, hown, hts⟩ (c_X7_isYard l D cI cC (((y : Nat) : Int)) (by omega)) (cwS 1 hts gX7_clear_X7_isYard rfl rfl rfl (by decide +kernel) ⟨Nat.le_of_ble_eq_true rfl, Nat.le_of_ble_eq_true rfl⟩) rfl hl.1 (by simp only [nI_iI]; rfl) (Nat.le_of_ble_eq_true rfl) dX7_clear_1 ⟨Nat.zero_le _, Nat.zero_le _⟩ hN hK hP hD hS hA [] [0, 1, 2, 3, 4, 5, 6, 7, 8, 9, 10, 11, 12, 13, 14] rfl rfl ⟨rfl, rfl, by decide⟩ (fun r1 u H locs w2 hP hD hS => ?_)
  obtain ⟨rfl, h3, h4⟩ | ⟨rfl, h5⟩ : (r1 = (nI 1) ∧ 0 ≤ (((y : Nat) : Int)) ∧ (((y : Nat) : Int)) ≤ 40) ∨ (r1 = (nI 0) ∧ ((((y : Nat) : Int)) < 0 ∨ 40 < (((y : Nat) : Int)))) := w2
  · refine x_if_eq (tgt := 21) hx hb dX7_clear_4 (by decide) (by omega) (fun h6 => False.elim (by omega)) (fun h6 => ?_)
    refine lv_aload_n hx hb dX7_clear_7 rfl (lv_at hl 0 rfl) ?_
    refine lv_aload_n hx hb dX7_clear_8 rfl (lv_at hl 0 rfl) ?_
    refine va_get (D := D) (ci := 7) (v := .ref (ad 11)) (C := RX7) (T := TX7) (N := 28) hx hb hts inX7 hown hK hP 0 rfl rfl 11 (by decide) fl40 (fun _ h9 => h9) rfl dX7_clear_9 ?_
    refine lv_iconst (v := (nI 0)) hx hb dX7_clear_12 (by decide) ?_
    refine x_iald (A := A) hx hb hK hP 11 0 rfl rfl dX7_clear_13 (by omega) (by omega) ?_
    refine lv_iload_n hx hb dX7_clear_14 rfl (lv_at hl 1 rfl) ?_
    refine k_V (q := (RX7, TX7, 28)) (ci := 7) (As := [.int (nI (spa 0)), .int (nI y)]) (wr := [(ad 11, eArr cI 4 spa), (ad 12, eArr cI 4 hea)]) ⟨hx, hb, hml, hown, hts⟩ (c_X7_clearMany l D cI cC rr ad len kp uo tm em pc0 fm pq dq kq ai sna wma be va lo lg vg cl hrc hok (by omega) wd hrd hokd (by omega) (spa 0) y (by omega)) (cwV 2 hts gX7_clear_X7_clearMany rfl rfl rfl (by decide +kernel) ⟨Nat.le_of_ble_eq_true rfl, Nat.le_of_ble_eq_true rfl⟩) rfl hl.1 rfl (Nat.le_of_ble_eq_true rfl) dX7_clear_15 ⟨Nat.zero_le _, Nat.zero_le _⟩ hN hK hP hD hS hA rfl (q0 := 0) rfl [0, 1, 2, 3, 4, 5, 6, 7, 8, 9, 10, 13, 14] [11, 12] rfl rfl ⟨rfl, rfl, by decide⟩ (fun r7 u H locs w8 hP hD hS => ?_)
    obtain rfl : r7 = (nI (cntClr cl (fm 0) (ai 0) (sna 0) wd (wma 0) (spa 0) y)) := w8
    refine lv_goto (tgt := 22) hx hb dX7_clear_18 (by decide) ?_
    exact x_iret hx hb hr hlocks dX7_clear_22 rfl (post := fun (r : Int32) (_ : Unit) => r = (nI (cntClr cl (fm 0) (ai 0) (sna 0) wd (wma 0) (spa 0) y))) (w1 := fun (_ : Unit) => [(rr, eMod ad len kp uo tm em pc0), (ad 2, eArr cI 2 fm), (ad 3, eArr cI 8 pq), (ad 4, eArr cI 8 dq), (ad 5, eArr cI 8 kq), (ad 6, eArr cI 2 ai), (ad 13, eArr cI 4 sna), (ad 7, eArr cI 4 wma), (ad 8, eArr cI 32 be), (ad 9, eArr cI 32 va), (ad 10, eArr cI 32 lo), (ad 11, eArr cI 4 spa), (ad 12, eArr cI 4 hea), (ad 20, eArr cI 150 ((hearM cl (fm 0) (ai 0) (sna 0) wd (wma 0) (spa 0) y (2 ^ (wma 0) - 1)).1)), (ad 21, eArr cI 150 ((hearM cl (fm 0) (ai 0) (sna 0) wd (wma 0) (spa 0) y (2 ^ (wma 0) - 1)).2))]) () rfl hK (hP.sub [2, 3, 4, 5, 6, 7, 8, 9, 10, 11, 12, 0, 1, 13, 14] rfl) (hD.sub [2, 3, 4, 5, 6, 7, 8, 9, 10, 11, 12, 0, 1, 13, 14] rfl rfl) hS
  · exact False.elim (by omega)

set_option maxRecDepth 100000 in
set_option maxHeartbeats 4000000 in
theorem c_X7_clear_bad (l : Launch) (D : va_G) (cI cC : ClassId) (rr : Nat) (ad : Nat → Nat) (len : Nat) (kp : Nat) (uo : Nat) (tm : Nat) (em : Nat) (pc0 : Nat) (z : Int) (hz : -2147483648 ≤ z ∧ z < 2147483648) (hbad : (z < 0 ∨ 40 < z)) : mtI l D cI cC yX7_clear wsX7_clear ({ frames := 2, cells := 0, slots := 0, locals := 45 }) [.ref rr, .int (iI z)] [(rr, eMod ad len kp uo tm em pc0)] (fun (r : Int32) (_ : Unit) => r = (iI (-1))) (fun (_ : Unit) => [(rr, eMod ad len kp uo tm em pc0)]) := by
  refine mtI_of (cc := cX7_clear) (maxL := 2) (ret := (some .int)) (by decide) rfl rfl ?_
  intro p e s m below meth c A hx hb hml hr hts hown hlocks hN hA hK hP hD hS ls hl
  have hown : s.vm.findClass RX7 = some m.cls := hown
  have hl : lv_has ls 2 [(0, .ref rr), (1, .int (iI z))] := hl
  obtain ⟨H, hHe⟩ : ∃ H, H = s.heap := ⟨_, rfl⟩
  rw [← hHe] at hP ⊢
  have hS : va_S A s.heap H [] := by rw [hHe]; exact va_S.rf
  refine lv_iload_n hx hb dX7_clear_0 rfl (lv_at hl 1 rfl) ?_
  refine k_S (As := [.int (iI z)]) (wr := [(rr, eMod ad len kp uo tm em pc0)]) ⟨hx, hb, hml, hown, hts⟩ (c_X7_isYard l D cI cC z (by omega)) (cwS 1 hts gX7_clear_X7_isYard rfl rfl rfl (by decide +kernel) ⟨Nat.le_of_ble_eq_true rfl, Nat.le_of_ble_eq_true rfl⟩) rfl hl.1 rfl (Nat.le_of_ble_eq_true rfl) dX7_clear_1 ⟨Nat.zero_le _, Nat.zero_le _⟩ hN hK hP hD hS hA [] [0] rfl rfl ⟨rfl, rfl, by decide⟩ (fun r1 u H locs w2 hP hD hS => ?_)
  obtain ⟨rfl, h3, h4⟩ | ⟨rfl, h5⟩ : (r1 = (nI 1) ∧ 0 ≤ z ∧ z ≤ 40) ∨ (r1 = (nI 0) ∧ (z < 0 ∨ 40 < z)) := w2
  · refine x_if_eq (tgt := 21) hx hb dX7_clear_4 (by decide) (by omega) (fun h6 => False.elim (by omega)) (fun h6 => ?_)
    exact False.elim (by omega)
  · refine x_if_eq (tgt := 21) hx hb dX7_clear_4 (by decide) (by omega) (fun h7 => ?_) (fun h7 => False.elim (by omega))
    refine lv_iconst (v := (iI (-1))) hx hb dX7_clear_21 (by decide) ?_
    exact x_iret hx hb hr hlocks dX7_clear_22 rfl (post := fun (r : Int32) (_ : Unit) => r = (iI (-1))) (w1 := fun (_ : Unit) => [(rr, eMod ad len kp uo tm em pc0)]) () rfl hK hP hD hS

set_option maxRecDepth 100000 in
set_option maxHeartbeats 4000000 in
theorem c_X7_note_lt (l : Launch) (D : va_G) (cI cC : ClassId) (rr : Nat) (ad : Nat → Nat) (len : Nat) (kp : Nat) (uo : Nat) (tm : Nat) (em : Nat) (pc0 : Nat) (un : Nat → Nat) (spa : Nat → Nat) (hea : Nat → Nat) (sna : Nat → Nat) (wma : Nat → Nat) (hu : uo < 8) : mtV l D cI cC yX7_note wsX7_note ({ frames := 0, cells := 0, slots := 0, locals := 0 }) [.ref rr] [(rr, eMod ad len kp uo tm em pc0), (ad 14, eArr cI 32 un), (ad 11, eArr cI 4 spa), (ad 12, eArr cI 4 hea), (ad 13, eArr cI 4 sna), (ad 7, eArr cI 4 wma)] (fun (_ : Unit) => True) (fun (_ : Unit) => [(rr, eMod ad len kp (uo + 1) tm em pc0), (ad 14, eArr cI 32 (upN (upN (upN (upN un (4 * uo) (spa 0)) (4 * uo + 1) (hea 0)) (4 * uo + 2) (sna 0)) (4 * uo + 3) (wma 0))), (ad 11, eArr cI 4 spa), (ad 12, eArr cI 4 hea), (ad 13, eArr cI 4 sna), (ad 7, eArr cI 4 wma)]) := by
  refine mtV_of (cc := cX7_note) (maxL := 2) (ret := none) (by decide) rfl rfl ?_
  intro p e s m below meth c A hx hb hml hr hts hown hlocks hN hA hK hP hD hS ls hl
  have hown : s.vm.findClass RX7 = some m.cls := hown
  have hl : lv_has ls 2 [(0, .ref rr)] := hl
  obtain ⟨H, hHe⟩ : ∃ H, H = s.heap := ⟨_, rfl⟩
  rw [← hHe] at hP ⊢
  have hS : va_S A s.heap H [] := by rw [hHe]; exact va_S.rf
  have fl145 := hts (.fieldLink RX7 145 "EchoPaysRentModel" "undoMany" "I") (by decide +kernel)
  have inX7 : ∀ w ∈ wsX70, w ∈ wsX7_note := by decide +kernel
  have fl49 := hts (.fieldLink RX7 49 "EchoPaysRentModel" "undos" "[I") (by decide +kernel)
  have fl40 := hts (.fieldLink RX7 40 "EchoPaysRentModel" "speaker" "[I") (by decide +kernel)
  have fl43 := hts (.fieldLink RX7 43 "EchoPaysRentModel" "hearer" "[I") (by decide +kernel)
  have fl46 := hts (.fieldLink RX7 46 "EchoPaysRentModel" "snow" "[I") (by decide +kernel)
  have fl28 := hts (.fieldLink RX7 28 "EchoPaysRentModel" "wordMany" "[I") (by decide +kernel)
  refine lv_aload_n hx hb dX7_note_0 rfl (lv_at hl 0 rfl) ?_
  refine va_get (D := D) (ci := 7) (v := .int (nI uo)) (C := RX7) (T := TX7) (N := 28) hx hb hts inX7 hown hK hP 0 rfl rfl 15 (by decide) fl145 (fun _ h9 => h9) rfl dX7_note_1 ?_
  refine lv_bipush (v := (nI 8)) hx hb dX7_note_4 (by decide) ?_
  refine x_icmp_ne (tgt := 47) hx hb dX7_note_6 (by decide) (by omega) (by omega) (fun h1 => ?_) (fun h1 => False.elim (by omega))
  refine lv_aload_n hx hb dX7_note_47 rfl (lv_at hl 0 rfl) ?_
  refine va_get (D := D) (ci := 7) (v := .ref (ad 14)) (C := RX7) (T := TX7) (N := 28) hx hb hts inX7 hown hK hP 0 rfl rfl 16 (by decide) fl49 (fun _ h9 => h9) rfl dX7_note_48 ?_
  refine lv_iconst (v := (nI 4)) hx hb dX7_note_51 (by decide) ?_
  refine lv_aload_n hx hb dX7_note_52 rfl (lv_at hl 0 rfl) ?_
  refine va_get (D := D) (ci := 7) (v := .int (nI uo)) (C := RX7) (T := TX7) (N := 28) hx hb hts inX7 hown hK hP 0 rfl rfl 15 (by decide) fl145 (fun _ h9 => h9) rfl dX7_note_53 ?_
  refine x_imul hx hb dX7_note_56 ?_
  refine lv_aload_n hx hb dX7_note_57 rfl (lv_at hl 0 rfl) ?_
  refine va_get (D := D) (ci := 7) (v := .ref (ad 11)) (C := RX7) (T := TX7) (N := 28) hx hb hts inX7 hown hK hP 0 rfl rfl 11 (by decide) fl40 (fun _ h9 => h9) rfl dX7_note_58 ?_
  refine lv_iconst (v := (nI 0)) hx hb dX7_note_61 (by decide) ?_
  refine x_iald (A := A) hx hb hK hP 2 0 rfl rfl dX7_note_62 (by omega) (by omega) ?_
  refine x_iast (A := A) hx hb hK hP hD hS 1 0 rfl rfl dX7_note_63 (by omega) (by omega) (fun H locs hP hD hS => ?_)
  have hP : va_P D vwCl [(rr, eMod ad len kp uo tm em pc0), (ad 14, eArr cI 32 (upN un (4 * uo) (spa 0))), (ad 11, eArr cI 4 spa), (ad 12, eArr cI 4 hea), (ad 13, eArr cI 4 sna), (ad 7, eArr cI 4 wma)] H := by have h := hP; rw [upd_nI] at h; exact h
  have hD : va_D A [(rr, eMod ad len kp uo tm em pc0), (ad 14, eArr cI 32 (upN un (4 * uo) (spa 0))), (ad 11, eArr cI 4 spa), (ad 12, eArr cI 4 hea), (ad 13, eArr cI 4 sna), (ad 7, eArr cI 4 wma)] := by have h := hD; rw [upd_nI] at h; exact h
  refine lv_aload_n hx hb dX7_note_64 rfl (lv_at hl 0 rfl) ?_
  refine va_get (D := D) (ci := 7) (v := .ref (ad 14)) (C := RX7) (T := TX7) (N := 28) hx hb hts inX7 hown hK hP 0 rfl rfl 16 (by decide) fl49 (fun _ h9 => h9) rfl dX7_note_65 ?_
  refine lv_iconst (v := (nI 4)) hx hb dX7_note_68 (by decide) ?_
  refine lv_aload_n hx hb dX7_note_69 rfl (lv_at hl 0 rfl) ?_
  refine va_get (D := D) (ci := 7) (v := .int (nI uo)) (C := RX7) (T := TX7) (N := 28) hx hb hts inX7 hown hK hP 0 rfl rfl 15 (by decide) fl145 (fun _ h9 => h9) rfl dX7_note_70 ?_
  refine x_imul hx hb dX7_note_73 ?_
  refine lv_iconst (v := (nI 1)) hx hb dX7_note_74 (by decide) ?_
  refine x_iadd hx hb dX7_note_75 ?_
  refine lv_aload_n hx hb dX7_note_76 rfl (lv_at hl 0 rfl) ?_
  refine va_get (D := D) (ci := 7) (v := .ref (ad 12)) (C := RX7) (T := TX7) (N := 28) hx hb hts inX7 hown hK hP 0 rfl rfl 12 (by decide) fl43 (fun _ h9 => h9) rfl dX7_note_77 ?_
  refine lv_iconst (v := (nI 0)) hx hb dX7_note_80 (by decide) ?_
  refine x_iald (A := A) hx hb hK hP 3 0 rfl rfl dX7_note_81 (by omega) (by omega) ?_
  refine x_iast (A := A) hx hb hK hP hD hS 1 0 rfl rfl dX7_note_82 (by omega) (by omega) (fun H locs hP hD hS => ?_)
  have hP : va_P D vwCl [(rr, eMod ad len kp uo tm em pc0), (ad 14, eArr cI 32 (upN (upN un (4 * uo) (spa 0)) (4 * uo + 1) (hea 0))), (ad 11, eArr cI 4 spa), (ad 12, eArr cI 4 hea), (ad 13, eArr cI 4 sna), (ad 7, eArr cI 4 wma)] H := by have h := hP; rw [upd_nI] at h; exact h
  have hD : va_D A [(rr, eMod ad len kp uo tm em pc0), (ad 14, eArr cI 32 (upN (upN un (4 * uo) (spa 0)) (4 * uo + 1) (hea 0))), (ad 11, eArr cI 4 spa), (ad 12, eArr cI 4 hea), (ad 13, eArr cI 4 sna), (ad 7, eArr cI 4 wma)] := by have h := hD; rw [upd_nI] at h; exact h
  refine lv_aload_n hx hb dX7_note_83 rfl (lv_at hl 0 rfl) ?_
  refine va_get (D := D) (ci := 7) (v := .ref (ad 14)) (C := RX7) (T := TX7) (N := 28) hx hb hts inX7 hown hK hP 0 rfl rfl 16 (by decide) fl49 (fun _ h9 => h9) rfl dX7_note_84 ?_
  refine lv_iconst (v := (nI 4)) hx hb dX7_note_87 (by decide) ?_
  refine lv_aload_n hx hb dX7_note_88 rfl (lv_at hl 0 rfl) ?_
  refine va_get (D := D) (ci := 7) (v := .int (nI uo)) (C := RX7) (T := TX7) (N := 28) hx hb hts inX7 hown hK hP 0 rfl rfl 15 (by decide) fl145 (fun _ h9 => h9) rfl dX7_note_89 ?_
  refine x_imul hx hb dX7_note_92 ?_
  refine lv_iconst (v := (nI 2)) hx hb dX7_note_93 (by decide) ?_
  refine x_iadd hx hb dX7_note_94 ?_
  refine lv_aload_n hx hb dX7_note_95 rfl (lv_at hl 0 rfl) ?_
  refine va_get (D := D) (ci := 7) (v := .ref (ad 13)) (C := RX7) (T := TX7) (N := 28) hx hb hts inX7 hown hK hP 0 rfl rfl 13 (by decide) fl46 (fun _ h9 => h9) rfl dX7_note_96 ?_
  refine lv_iconst (v := (nI 0)) hx hb dX7_note_99 (by decide) ?_
  refine x_iald (A := A) hx hb hK hP 4 0 rfl rfl dX7_note_100 (by omega) (by omega) ?_
  refine x_iast (A := A) hx hb hK hP hD hS 1 0 rfl rfl dX7_note_101 (by omega) (by omega) (fun H locs hP hD hS => ?_)
  have hP : va_P D vwCl [(rr, eMod ad len kp uo tm em pc0), (ad 14, eArr cI 32 (upN (upN (upN un (4 * uo) (spa 0)) (4 * uo + 1) (hea 0)) (4 * uo + 2) (sna 0))), (ad 11, eArr cI 4 spa), (ad 12, eArr cI 4 hea), (ad 13, eArr cI 4 sna), (ad 7, eArr cI 4 wma)] H := by have h := hP; rw [upd_nI] at h; exact h
  have hD : va_D A [(rr, eMod ad len kp uo tm em pc0), (ad 14, eArr cI 32 (upN (upN (upN un (4 * uo) (spa 0)) (4 * uo + 1) (hea 0)) (4 * uo + 2) (sna 0))), (ad 11, eArr cI 4 spa), (ad 12, eArr cI 4 hea), (ad 13, eArr cI 4 sna), (ad 7, eArr cI 4 wma)] := by have h := hD; rw [upd_nI] at h; exact h
  refine lv_aload_n hx hb dX7_note_102 rfl (lv_at hl 0 rfl) ?_
  refine va_get (D := D) (ci := 7) (v := .ref (ad 14)) (C := RX7) (T := TX7) (N := 28) hx hb hts inX7 hown hK hP 0 rfl rfl 16 (by decide) fl49 (fun _ h9 => h9) rfl dX7_note_103 ?_
  refine lv_iconst (v := (nI 4)) hx hb dX7_note_106 (by decide) ?_
  refine lv_aload_n hx hb dX7_note_107 rfl (lv_at hl 0 rfl) ?_
  refine va_get (D := D) (ci := 7) (v := .int (nI uo)) (C := RX7) (T := TX7) (N := 28) hx hb hts inX7 hown hK hP 0 rfl rfl 15 (by decide) fl145 (fun _ h9 => h9) rfl dX7_note_108 ?_
  refine x_imul hx hb dX7_note_111 ?_
  refine lv_iconst (v := (nI 3)) hx hb dX7_note_112 (by decide) ?_
  refine x_iadd hx hb dX7_note_113 ?_
  refine lv_aload_n hx hb dX7_note_114 rfl (lv_at hl 0 rfl) ?_
  refine va_get (D := D) (ci := 7) (v := .ref (ad 7)) (C := RX7) (T := TX7) (N := 28) hx hb hts inX7 hown hK hP 0 rfl rfl 7 (by decide) fl28 (fun _ h9 => h9) rfl dX7_note_115 ?_
  refine lv_iconst (v := (nI 0)) hx hb dX7_note_118 (by decide) ?_
  refine x_iald (A := A) hx hb hK hP 5 0 rfl rfl dX7_note_119 (by omega) (by omega) ?_
  refine x_iast (A := A) hx hb hK hP hD hS 1 0 rfl rfl dX7_note_120 (by omega) (by omega) (fun H locs hP hD hS => ?_)
  have hP : va_P D vwCl [(rr, eMod ad len kp uo tm em pc0), (ad 14, eArr cI 32 (upN (upN (upN (upN un (4 * uo) (spa 0)) (4 * uo + 1) (hea 0)) (4 * uo + 2) (sna 0)) (4 * uo + 3) (wma 0))), (ad 11, eArr cI 4 spa), (ad 12, eArr cI 4 hea), (ad 13, eArr cI 4 sna), (ad 7, eArr cI 4 wma)] H := by have h := hP; rw [upd_nI] at h; exact h
  have hD : va_D A [(rr, eMod ad len kp uo tm em pc0), (ad 14, eArr cI 32 (upN (upN (upN (upN un (4 * uo) (spa 0)) (4 * uo + 1) (hea 0)) (4 * uo + 2) (sna 0)) (4 * uo + 3) (wma 0))), (ad 11, eArr cI 4 spa), (ad 12, eArr cI 4 hea), (ad 13, eArr cI 4 sna), (ad 7, eArr cI 4 wma)] := by have h := hD; rw [upd_nI] at h; exact h
  refine lv_aload_n hx hb dX7_note_121 rfl (lv_at hl 0 rfl) ?_
  refine lv_dup hx hb dX7_note_122 rfl ?_
  refine va_get (D := D) (ci := 7) (v := .int (nI uo)) (C := RX7) (T := TX7) (N := 28) hx hb hts inX7 hown hK hP 0 rfl rfl 15 (by decide) fl145 (fun _ h9 => h9) rfl dX7_note_123 ?_
  refine lv_iconst (v := (nI 1)) hx hb dX7_note_126 (by decide) ?_
  refine x_iadd hx hb dX7_note_127 ?_
  refine va_put (D := D) (ci := 7) (v := .int (nI (uo + 1))) (ty := .int) (C := RX7) (T := TX7) (N := 28) hx hb hts inX7 tyX7 tyX7_ok nmX7 hown hK hP hD hS 0 rfl rfl 15 (by decide) fl145 (fun _ h9 => h9) rfl (by decide +kernel) rfl rfl (Nat.le_of_ble_eq_true rfl) dX7_note_128 (fun H locs hP hD hS => ?_)
  have hP : va_P D vwCl [(rr, eMod ad len kp (uo + 1) tm em pc0), (ad 14, eArr cI 32 (upN (upN (upN (upN un (4 * uo) (spa 0)) (4 * uo + 1) (hea 0)) (4 * uo + 2) (sna 0)) (4 * uo + 3) (wma 0))), (ad 11, eArr cI 4 spa), (ad 12, eArr cI 4 hea), (ad 13, eArr cI 4 sna), (ad 7, eArr cI 4 wma)] H := hP
  have hD : va_D A [(rr, eMod ad len kp (uo + 1) tm em pc0), (ad 14, eArr cI 32 (upN (upN (upN (upN un (4 * uo) (spa 0)) (4 * uo + 1) (hea 0)) (4 * uo + 2) (sna 0)) (4 * uo + 3) (wma 0))), (ad 11, eArr cI 4 spa), (ad 12, eArr cI 4 hea), (ad 13, eArr cI 4 sna), (ad 7, eArr cI 4 wma)] := hD
  exact x_vret hx hb hr hlocks dX7_note_131 (post := fun (_ : Unit) => True) (w1 := fun (_ : Unit) => [(rr, eMod ad len kp (uo + 1) tm em pc0), (ad 14, eArr cI 32 (upN (upN (upN (upN un (4 * uo) (spa 0)) (4 * uo + 1) (hea 0)) (4 * uo + 2) (sna 0)) (4 * uo + 3) (wma 0))), (ad 11, eArr cI 4 spa), (ad 12, eArr cI 4 hea), (ad 13, eArr cI 4 sna), (ad 7, eArr cI 4 wma)]) () trivial hK hP hD hS

set_option maxRecDepth 100000 in
set_option maxHeartbeats 4000000 in
theorem c_X7_note_full (l : Launch) (D : va_G) (cI cC : ClassId) (rr : Nat) (ad : Nat → Nat) (len : Nat) (kp : Nat) (uo : Nat) (tm : Nat) (em : Nat) (pc0 : Nat) (un : Nat → Nat) (spa : Nat → Nat) (hea : Nat → Nat) (sna : Nat → Nat) (wma : Nat → Nat) (hu : uo = 8) : mtV l D cI cC yX7_note wsX7_note ({ frames := 0, cells := 0, slots := 0, locals := 0 }) [.ref rr] [(rr, eMod ad len kp uo tm em pc0), (ad 14, eArr cI 32 un), (ad 11, eArr cI 4 spa), (ad 12, eArr cI 4 hea), (ad 13, eArr cI 4 sna), (ad 7, eArr cI 4 wma)] (fun (_ : Unit) => True) (fun (_ : Unit) => [(rr, eMod ad len kp (uo - 1 + 1) tm em pc0), (ad 14, eArr cI 32 (upN (upN (upN (upN (shf un 28) (4 * ((uo - 1))) (spa 0)) (4 * ((uo - 1)) + 1) (hea 0)) (4 * ((uo - 1)) + 2) (sna 0)) (4 * ((uo - 1)) + 3) (wma 0))), (ad 11, eArr cI 4 spa), (ad 12, eArr cI 4 hea), (ad 13, eArr cI 4 sna), (ad 7, eArr cI 4 wma)]) := by
  refine mtV_of (cc := cX7_note) (maxL := 2) (ret := none) (by decide) rfl rfl ?_
  intro p e s m below meth c A hx hb hml hr hts hown hlocks hN hA hK hP hD hS ls hl
  have hown : s.vm.findClass RX7 = some m.cls := hown
  have hl : lv_has ls 2 [(0, .ref rr)] := hl
  obtain ⟨H, hHe⟩ : ∃ H, H = s.heap := ⟨_, rfl⟩
  rw [← hHe] at hP ⊢
  have hS : va_S A s.heap H [] := by rw [hHe]; exact va_S.rf
  have fl145 := hts (.fieldLink RX7 145 "EchoPaysRentModel" "undoMany" "I") (by decide +kernel)
  have inX7 : ∀ w ∈ wsX70, w ∈ wsX7_note := by decide +kernel
  have fl49 := hts (.fieldLink RX7 49 "EchoPaysRentModel" "undos" "[I") (by decide +kernel)
  have fl40 := hts (.fieldLink RX7 40 "EchoPaysRentModel" "speaker" "[I") (by decide +kernel)
  have fl43 := hts (.fieldLink RX7 43 "EchoPaysRentModel" "hearer" "[I") (by decide +kernel)
  have fl46 := hts (.fieldLink RX7 46 "EchoPaysRentModel" "snow" "[I") (by decide +kernel)
  have fl28 := hts (.fieldLink RX7 28 "EchoPaysRentModel" "wordMany" "[I") (by decide +kernel)
  refine lv_aload_n hx hb dX7_note_0 rfl (lv_at hl 0 rfl) ?_
  refine va_get (D := D) (ci := 7) (v := .int (nI uo)) (C := RX7) (T := TX7) (N := 28) hx hb hts inX7 hown hK hP 0 rfl rfl 15 (by decide) fl145 (fun _ h9 => h9) rfl dX7_note_1 ?_
  refine lv_bipush (v := (nI 8)) hx hb dX7_note_4 (by decide) ?_
  refine x_icmp_ne (tgt := 47) hx hb dX7_note_6 (by decide) (by omega) (by omega) (fun h1 => False.elim (by omega)) (fun h1 => ?_)
  refine lv_iconst (v := (nI 0)) hx hb dX7_note_9 (by decide) ?_
  refine lv_istore_n (lv' := [(1, .int (nI 0)), (0, .ref rr)]) hx hb dX7_note_10 rfl hl (by decide) rfl (fun ls hl => ?_)
  have loop11 : ∀ (nn11 : Nat) (k : Nat), 28 - k < nn11 → (k ≤ 28) → ∀ (H : Heap) (locs : List Loc), va_P D vwCl [(rr, eMod ad len kp uo tm em pc0), (ad 14, eArr cI 32 (shf un k)), (ad 11, eArr cI 4 spa), (ad 12, eArr cI 4 hea), (ad 13, eArr cI 4 sna), (ad 7, eArr cI 4 wma)] H → va_D A [(rr, eMod ad len kp uo tm em pc0), (ad 14, eArr cI 32 (shf un k)), (ad 11, eArr cI 4 spa), (ad 12, eArr cI 4 hea), (ad 13, eArr cI 4 sna), (ad 7, eArr cI 4 wma)] → va_S A s.heap H locs → ∀ ls : Array Slot, lv_has ls 2 [(1, .int (nI k)), (0, .ref rr)] → W p l e (headSpec wsX7_note ({ frames := 0, cells := 0, slots := 0, locals := 0 })).room s m ([.ref rr] : List Value).toArray below meth c H locs 0 0 (MQ below (va_Qv (fun (_ : Unit) => True) (ctB D cI cC (fun (_ : Unit) => [(rr, eMod ad len kp (uo - 1 + 1) tm em pc0), (ad 14, eArr cI 32 (upN (upN (upN (upN (shf un 28) (4 * ((uo - 1))) (spa 0)) (4 * ((uo - 1)) + 1) (hea 0)) (4 * ((uo - 1)) + 2) (sna 0)) (4 * ((uo - 1)) + 3) (wma 0))), (ad 11, eArr cI 4 spa), (ad 12, eArr cI 4 hea), (ad 13, eArr cI 4 sna), (ad 7, eArr cI 4 wma)]) A) A) ([.ref rr] : List Value).toArray s 0 0 A) (F0 m 11 ls []) := by
    intro nn11
    induction nn11 with
    | zero =>
      intro k hm2
      exact absurd hm2 (Nat.not_lt_zero _)
    | succ nn11 ih11 =>
      intro k hm2 hi3 H locs hP hD hS ls hl
      refine lv_iload_n hx hb dX7_note_11 rfl (lv_at hl 0 rfl) ?_
      refine lv_bipush (v := (nI 28)) hx hb dX7_note_12 (by decide) ?_
      refine x_icmp_ge (tgt := 37) hx hb dX7_note_14 (by decide) (by omega) (by omega) (fun h4 => ?_) (fun h4 => ?_)
      · obtain rfl : k = 28 := by omega
        refine lv_aload_n hx hb dX7_note_37 rfl (lv_at hl 1 rfl) ?_
        refine lv_dup hx hb dX7_note_38 rfl ?_
        refine va_get (D := D) (ci := 7) (v := .int (nI uo)) (C := RX7) (T := TX7) (N := 28) hx hb hts inX7 hown hK hP 0 rfl rfl 15 (by decide) fl145 (fun _ h9 => h9) rfl dX7_note_39 ?_
        refine lv_iconst (v := (nI 1)) hx hb dX7_note_42 (by decide) ?_
        refine x_isub hx hb dX7_note_43 (by omega) ?_
        refine va_put (D := D) (ci := 7) (v := .int (nI (uo - 1))) (ty := .int) (C := RX7) (T := TX7) (N := 28) hx hb hts inX7 tyX7 tyX7_ok nmX7 hown hK hP hD hS 0 rfl rfl 15 (by decide) fl145 (fun _ h9 => h9) rfl (by decide +kernel) rfl rfl (Nat.le_of_ble_eq_true rfl) dX7_note_44 (fun H locs hP hD hS => ?_)
        have hP : va_P D vwCl [(rr, eMod ad len kp (uo - 1) tm em pc0), (ad 14, eArr cI 32 (shf un 28)), (ad 11, eArr cI 4 spa), (ad 12, eArr cI 4 hea), (ad 13, eArr cI 4 sna), (ad 7, eArr cI 4 wma)] H := hP
        have hD : va_D A [(rr, eMod ad len kp (uo - 1) tm em pc0), (ad 14, eArr cI 32 (shf un 28)), (ad 11, eArr cI 4 spa), (ad 12, eArr cI 4 hea), (ad 13, eArr cI 4 sna), (ad 7, eArr cI 4 wma)] := hD
        refine lv_aload_n hx hb dX7_note_47 rfl (lv_at hl 1 rfl) ?_
        refine va_get (D := D) (ci := 7) (v := .ref (ad 14)) (C := RX7) (T := TX7) (N := 28) hx hb hts inX7 hown hK hP 0 rfl rfl 16 (by decide) fl49 (fun _ h9 => h9) rfl dX7_note_48 ?_
        refine lv_iconst (v := (nI 4)) hx hb dX7_note_51 (by decide) ?_
        refine lv_aload_n hx hb dX7_note_52 rfl (lv_at hl 1 rfl) ?_
        refine va_get (D := D) (ci := 7) (v := .int (nI (uo - 1))) (C := RX7) (T := TX7) (N := 28) hx hb hts inX7 hown hK hP 0 rfl rfl 15 (by decide) fl145 (fun _ h9 => h9) rfl dX7_note_53 ?_
        refine x_imul hx hb dX7_note_56 ?_
        refine lv_aload_n hx hb dX7_note_57 rfl (lv_at hl 1 rfl) ?_
        refine va_get (D := D) (ci := 7) (v := .ref (ad 11)) (C := RX7) (T := TX7) (N := 28) hx hb hts inX7 hown hK hP 0 rfl rfl 11 (by decide) fl40 (fun _ h9 => h9) rfl dX7_note_58 ?_
        refine lv_iconst (v := (nI 0)) hx hb dX7_note_61 (by decide) ?_
        refine x_iald (A := A) hx hb hK hP 2 0 rfl rfl dX7_note_62 (by omega) (by omega) ?_
        refine x_iast (A := A) hx hb hK hP hD hS 1 0 rfl rfl dX7_note_63 (by omega) (by omega) (fun H locs hP hD hS => ?_)
        have hP : va_P D vwCl [(rr, eMod ad len kp (uo - 1) tm em pc0), (ad 14, eArr cI 32 (upN (shf un 28) (4 * (uo - 1)) (spa 0))), (ad 11, eArr cI 4 spa), (ad 12, eArr cI 4 hea), (ad 13, eArr cI 4 sna), (ad 7, eArr cI 4 wma)] H := by have h := hP; rw [upd_nI] at h; exact h
        have hD : va_D A [(rr, eMod ad len kp (uo - 1) tm em pc0), (ad 14, eArr cI 32 (upN (shf un 28) (4 * (uo - 1)) (spa 0))), (ad 11, eArr cI 4 spa), (ad 12, eArr cI 4 hea), (ad 13, eArr cI 4 sna), (ad 7, eArr cI 4 wma)] := by have h := hD; rw [upd_nI] at h; exact h
        refine lv_aload_n hx hb dX7_note_64 rfl (lv_at hl 1 rfl) ?_
        refine va_get (D := D) (ci := 7) (v := .ref (ad 14)) (C := RX7) (T := TX7) (N := 28) hx hb hts inX7 hown hK hP 0 rfl rfl 16 (by decide) fl49 (fun _ h9 => h9) rfl dX7_note_65 ?_
        refine lv_iconst (v := (nI 4)) hx hb dX7_note_68 (by decide) ?_
        refine lv_aload_n hx hb dX7_note_69 rfl (lv_at hl 1 rfl) ?_
        refine va_get (D := D) (ci := 7) (v := .int (nI (uo - 1))) (C := RX7) (T := TX7) (N := 28) hx hb hts inX7 hown hK hP 0 rfl rfl 15 (by decide) fl145 (fun _ h9 => h9) rfl dX7_note_70 ?_
        refine x_imul hx hb dX7_note_73 ?_
        refine lv_iconst (v := (nI 1)) hx hb dX7_note_74 (by decide) ?_
        refine x_iadd hx hb dX7_note_75 ?_
        refine lv_aload_n hx hb dX7_note_76 rfl (lv_at hl 1 rfl) ?_
        refine va_get (D := D) (ci := 7) (v := .ref (ad 12)) (C := RX7) (T := TX7) (N := 28) hx hb hts inX7 hown hK hP 0 rfl rfl 12 (by decide) fl43 (fun _ h9 => h9) rfl dX7_note_77 ?_
        refine lv_iconst (v := (nI 0)) hx hb dX7_note_80 (by decide) ?_
        refine x_iald (A := A) hx hb hK hP 3 0 rfl rfl dX7_note_81 (by omega) (by omega) ?_
        refine x_iast (A := A) hx hb hK hP hD hS 1 0 rfl rfl dX7_note_82 (by omega) (by omega) (fun H locs hP hD hS => ?_)
        have hP : va_P D vwCl [(rr, eMod ad len kp (uo - 1) tm em pc0), (ad 14, eArr cI 32 (upN (upN (shf un 28) (4 * (uo - 1)) (spa 0)) (4 * (uo - 1) + 1) (hea 0))), (ad 11, eArr cI 4 spa), (ad 12, eArr cI 4 hea), (ad 13, eArr cI 4 sna), (ad 7, eArr cI 4 wma)] H := by have h := hP; rw [upd_nI] at h; exact h
        have hD : va_D A [(rr, eMod ad len kp (uo - 1) tm em pc0), (ad 14, eArr cI 32 (upN (upN (shf un 28) (4 * (uo - 1)) (spa 0)) (4 * (uo - 1) + 1) (hea 0))), (ad 11, eArr cI 4 spa), (ad 12, eArr cI 4 hea), (ad 13, eArr cI 4 sna), (ad 7, eArr cI 4 wma)] := by have h := hD; rw [upd_nI] at h; exact h
        refine lv_aload_n hx hb dX7_note_83 rfl (lv_at hl 1 rfl) ?_
        refine va_get (D := D) (ci := 7) (v := .ref (ad 14)) (C := RX7) (T := TX7) (N := 28) hx hb hts inX7 hown hK hP 0 rfl rfl 16 (by decide) fl49 (fun _ h9 => h9) rfl dX7_note_84 ?_
        refine lv_iconst (v := (nI 4)) hx hb dX7_note_87 (by decide) ?_
        refine lv_aload_n hx hb dX7_note_88 rfl (lv_at hl 1 rfl) ?_
        refine va_get (D := D) (ci := 7) (v := .int (nI (uo - 1))) (C := RX7) (T := TX7) (N := 28) hx hb hts inX7 hown hK hP 0 rfl rfl 15 (by decide) fl145 (fun _ h9 => h9) rfl dX7_note_89 ?_
        refine x_imul hx hb dX7_note_92 ?_
        refine lv_iconst (v := (nI 2)) hx hb dX7_note_93 (by decide) ?_
        refine x_iadd hx hb dX7_note_94 ?_
        refine lv_aload_n hx hb dX7_note_95 rfl (lv_at hl 1 rfl) ?_
        refine va_get (D := D) (ci := 7) (v := .ref (ad 13)) (C := RX7) (T := TX7) (N := 28) hx hb hts inX7 hown hK hP 0 rfl rfl 13 (by decide) fl46 (fun _ h9 => h9) rfl dX7_note_96 ?_
        refine lv_iconst (v := (nI 0)) hx hb dX7_note_99 (by decide) ?_
        refine x_iald (A := A) hx hb hK hP 4 0 rfl rfl dX7_note_100 (by omega) (by omega) ?_
        refine x_iast (A := A) hx hb hK hP hD hS 1 0 rfl rfl dX7_note_101 (by omega) (by omega) (fun H locs hP hD hS => ?_)
        have hP : va_P D vwCl [(rr, eMod ad len kp (uo - 1) tm em pc0), (ad 14, eArr cI 32 (upN (upN (upN (shf un 28) (4 * (uo - 1)) (spa 0)) (4 * (uo - 1) + 1) (hea 0)) (4 * (uo - 1) + 2) (sna 0))), (ad 11, eArr cI 4 spa), (ad 12, eArr cI 4 hea), (ad 13, eArr cI 4 sna), (ad 7, eArr cI 4 wma)] H := by have h := hP; rw [upd_nI] at h; exact h
        have hD : va_D A [(rr, eMod ad len kp (uo - 1) tm em pc0), (ad 14, eArr cI 32 (upN (upN (upN (shf un 28) (4 * (uo - 1)) (spa 0)) (4 * (uo - 1) + 1) (hea 0)) (4 * (uo - 1) + 2) (sna 0))), (ad 11, eArr cI 4 spa), (ad 12, eArr cI 4 hea), (ad 13, eArr cI 4 sna), (ad 7, eArr cI 4 wma)] := by have h := hD; rw [upd_nI] at h; exact h
        refine lv_aload_n hx hb dX7_note_102 rfl (lv_at hl 1 rfl) ?_
        refine va_get (D := D) (ci := 7) (v := .ref (ad 14)) (C := RX7) (T := TX7) (N := 28) hx hb hts inX7 hown hK hP 0 rfl rfl 16 (by decide) fl49 (fun _ h9 => h9) rfl dX7_note_103 ?_
        refine lv_iconst (v := (nI 4)) hx hb dX7_note_106 (by decide) ?_
        refine lv_aload_n hx hb dX7_note_107 rfl (lv_at hl 1 rfl) ?_
        refine va_get (D := D) (ci := 7) (v := .int (nI (uo - 1))) (C := RX7) (T := TX7) (N := 28) hx hb hts inX7 hown hK hP 0 rfl rfl 15 (by decide) fl145 (fun _ h9 => h9) rfl dX7_note_108 ?_
        refine x_imul hx hb dX7_note_111 ?_
        refine lv_iconst (v := (nI 3)) hx hb dX7_note_112 (by decide) ?_
        refine x_iadd hx hb dX7_note_113 ?_
        refine lv_aload_n hx hb dX7_note_114 rfl (lv_at hl 1 rfl) ?_
        refine va_get (D := D) (ci := 7) (v := .ref (ad 7)) (C := RX7) (T := TX7) (N := 28) hx hb hts inX7 hown hK hP 0 rfl rfl 7 (by decide) fl28 (fun _ h9 => h9) rfl dX7_note_115 ?_
        refine lv_iconst (v := (nI 0)) hx hb dX7_note_118 (by decide) ?_
        refine x_iald (A := A) hx hb hK hP 5 0 rfl rfl dX7_note_119 (by omega) (by omega) ?_
        refine x_iast (A := A) hx hb hK hP hD hS 1 0 rfl rfl dX7_note_120 (by omega) (by omega) (fun H locs hP hD hS => ?_)
        have hP : va_P D vwCl [(rr, eMod ad len kp (uo - 1) tm em pc0), (ad 14, eArr cI 32 (upN (upN (upN (upN (shf un 28) (4 * (uo - 1)) (spa 0)) (4 * (uo - 1) + 1) (hea 0)) (4 * (uo - 1) + 2) (sna 0)) (4 * (uo - 1) + 3) (wma 0))), (ad 11, eArr cI 4 spa), (ad 12, eArr cI 4 hea), (ad 13, eArr cI 4 sna), (ad 7, eArr cI 4 wma)] H := by have h := hP; rw [upd_nI] at h; exact h
        have hD : va_D A [(rr, eMod ad len kp (uo - 1) tm em pc0), (ad 14, eArr cI 32 (upN (upN (upN (upN (shf un 28) (4 * (uo - 1)) (spa 0)) (4 * (uo - 1) + 1) (hea 0)) (4 * (uo - 1) + 2) (sna 0)) (4 * (uo - 1) + 3) (wma 0))), (ad 11, eArr cI 4 spa), (ad 12, eArr cI 4 hea), (ad 13, eArr cI 4 sna), (ad 7, eArr cI 4 wma)] := by have h := hD; rw [upd_nI] at h; exact h
        refine lv_aload_n hx hb dX7_note_121 rfl (lv_at hl 1 rfl) ?_
        refine lv_dup hx hb dX7_note_122 rfl ?_
        refine va_get (D := D) (ci := 7) (v := .int (nI (uo - 1))) (C := RX7) (T := TX7) (N := 28) hx hb hts inX7 hown hK hP 0 rfl rfl 15 (by decide) fl145 (fun _ h9 => h9) rfl dX7_note_123 ?_
        refine lv_iconst (v := (nI 1)) hx hb dX7_note_126 (by decide) ?_
        refine x_iadd hx hb dX7_note_127 ?_
        refine va_put (D := D) (ci := 7) (v := .int (nI (uo - 1 + 1))) (ty := .int) (C := RX7) (T := TX7) (N := 28) hx hb hts inX7 tyX7 tyX7_ok nmX7 hown hK hP hD hS 0 rfl rfl 15 (by decide) fl145 (fun _ h9 => h9) rfl (by decide +kernel) rfl rfl (Nat.le_of_ble_eq_true rfl) dX7_note_128 (fun H locs hP hD hS => ?_)
        have hP : va_P D vwCl [(rr, eMod ad len kp (uo - 1 + 1) tm em pc0), (ad 14, eArr cI 32 (upN (upN (upN (upN (shf un 28) (4 * (uo - 1)) (spa 0)) (4 * (uo - 1) + 1) (hea 0)) (4 * (uo - 1) + 2) (sna 0)) (4 * (uo - 1) + 3) (wma 0))), (ad 11, eArr cI 4 spa), (ad 12, eArr cI 4 hea), (ad 13, eArr cI 4 sna), (ad 7, eArr cI 4 wma)] H := hP
        have hD : va_D A [(rr, eMod ad len kp (uo - 1 + 1) tm em pc0), (ad 14, eArr cI 32 (upN (upN (upN (upN (shf un 28) (4 * (uo - 1)) (spa 0)) (4 * (uo - 1) + 1) (hea 0)) (4 * (uo - 1) + 2) (sna 0)) (4 * (uo - 1) + 3) (wma 0))), (ad 11, eArr cI 4 spa), (ad 12, eArr cI 4 hea), (ad 13, eArr cI 4 sna), (ad 7, eArr cI 4 wma)] := hD
        exact x_vret hx hb hr hlocks dX7_note_131 (post := fun (_ : Unit) => True) (w1 := fun (_ : Unit) => [(rr, eMod ad len kp (uo - 1 + 1) tm em pc0), (ad 14, eArr cI 32 (upN (upN (upN (upN (shf un 28) (4 * ((uo - 1))) (spa 0)) (4 * ((uo - 1)) + 1) (hea 0)) (4 * ((uo - 1)) + 2) (sna 0)) (4 * ((uo - 1)) + 3) (wma 0))), (ad 11, eArr cI 4 spa), (ad 12, eArr cI 4 hea), (ad 13, eArr cI 4 sna), (ad 7, eArr cI 4 wma)]) () trivial hK hP hD hS
      · refine lv_aload_n hx hb dX7_note_17 rfl (lv_at hl 1 rfl) ?_
        refine va_get (D := D) (ci := 7) (v := .ref (ad 14)) (C := RX7) (T := TX7) (N := 28) hx hb hts inX7 hown hK hP 0 rfl rfl 16 (by decide) fl49 (fun _ h9 => h9) rfl dX7_note_18 ?_
        refine lv_iload_n hx hb dX7_note_21 rfl (lv_at hl 0 rfl) ?_
        refine lv_aload_n hx hb dX7_note_22 rfl (lv_at hl 1 rfl) ?_
        refine va_get (D := D) (ci := 7) (v := .ref (ad 14)) (C := RX7) (T := TX7) (N := 28) hx hb hts inX7 hown hK hP 0 rfl rfl 16 (by decide) fl49 (fun _ h9 => h9) rfl dX7_note_23 ?_
        refine lv_iload_n hx hb dX7_note_26 rfl (lv_at hl 0 rfl) ?_
        refine lv_iconst (v := (nI 4)) hx hb dX7_note_27 (by decide) ?_
        refine x_iadd hx hb dX7_note_28 ?_
        refine x_iald (A := A) hx hb hK hP 1 0 rfl rfl dX7_note_29 (by omega) (by omega) ?_
        refine x_iast (A := A) hx hb hK hP hD hS 1 0 rfl rfl dX7_note_30 (by omega) (by omega) (fun H locs hP hD hS => ?_)
        have hP : va_P D vwCl [(rr, eMod ad len kp uo tm em pc0), (ad 14, eArr cI 32 (upN (shf un k) k ((shf un k) (k + 4)))), (ad 11, eArr cI 4 spa), (ad 12, eArr cI 4 hea), (ad 13, eArr cI 4 sna), (ad 7, eArr cI 4 wma)] H := by have h := hP; rw [upd_nI] at h; exact h
        have hD : va_D A [(rr, eMod ad len kp uo tm em pc0), (ad 14, eArr cI 32 (upN (shf un k) k ((shf un k) (k + 4)))), (ad 11, eArr cI 4 spa), (ad 12, eArr cI 4 hea), (ad 13, eArr cI 4 sna), (ad 7, eArr cI 4 wma)] := by have h := hD; rw [upd_nI] at h; exact h
        refine lv_iinc (v := (nI (k + 1))) (lv' := [(1, .int (nI (k + 1))), (0, .ref rr)]) hx hb dX7_note_31 hl (k := 0) rfl (nI_inc _ 1) (by decide) rfl (fun ls hl => ?_)
        refine lv_goto (tgt := 11) hx hb dX7_note_34 (by decide) ?_
        have hP : va_P D vwCl [(rr, eMod ad len kp uo tm em pc0), (ad 14, eArr cI 32 (shf un (k + 1))), (ad 11, eArr cI 4 spa), (ad 12, eArr cI 4 hea), (ad 13, eArr cI 4 sna), (ad 7, eArr cI 4 wma)] H := by rw [shf_s]; exact hP
        have hD : va_D A [(rr, eMod ad len kp uo tm em pc0), (ad 14, eArr cI 32 (shf un (k + 1))), (ad 11, eArr cI 4 spa), (ad 12, eArr cI 4 hea), (ad 13, eArr cI 4 sna), (ad 7, eArr cI 4 wma)] := by rw [shf_s]; exact hD
        exact ih11 (k + 1) (by omega) (by omega) _ _ (hP.sub [0, 1, 2, 3, 4, 5] rfl) (hD.sub [0, 1, 2, 3, 4, 5] rfl rfl) hS _ (lv_sub hl [0, 1] rfl)
  have hP : va_P D vwCl [(rr, eMod ad len kp uo tm em pc0), (ad 14, eArr cI 32 (shf un 0)), (ad 11, eArr cI 4 spa), (ad 12, eArr cI 4 hea), (ad 13, eArr cI 4 sna), (ad 7, eArr cI 4 wma)] H := by rw [shf_0]; exact hP
  have hD : va_D A [(rr, eMod ad len kp uo tm em pc0), (ad 14, eArr cI 32 (shf un 0)), (ad 11, eArr cI 4 spa), (ad 12, eArr cI 4 hea), (ad 13, eArr cI 4 sna), (ad 7, eArr cI 4 wma)] := by rw [shf_0]; exact hD
  exact loop11 _ 0 (Nat.lt_succ_self _) (by omega) _ _ (hP.sub [0, 1, 2, 3, 4, 5] rfl) (hD.sub [0, 1, 2, 3, 4, 5] rfl rfl) hS _ (lv_sub hl [0, 1] rfl)

set_option maxRecDepth 100000 in
set_option maxHeartbeats 4000000 in
theorem c_X7_go_splt (l : Launch) (D : va_G) (cI cC : ClassId) (rr : Nat) (ad : Nat → Nat) (len : Nat) (kp : Nat) (uo : Nat) (tm : Nat) (em : Nat) (pc0 : Nat) (un : Nat → Nat) (spa : Nat → Nat) (hea : Nat → Nat) (sna : Nat → Nat) (wma : Nat → Nat) (x : Nat) (hu : uo < 8) (hxx : x ≤ 40) : mtI l D cI cC yX7_go wsX7_go ({ frames := 2, cells := 0, slots := 0, locals := 45 }) [.ref rr, .int (nI 0), .int (nI x)] [(rr, eMod ad len kp uo tm em pc0), (ad 14, eArr cI 32 un), (ad 11, eArr cI 4 spa), (ad 12, eArr cI 4 hea), (ad 13, eArr cI 4 sna), (ad 7, eArr cI 4 wma)] (fun (r : Int32) (_ : Unit) => r = (nI (spa 0))) (fun (_ : Unit) => [(rr, eMod ad len kp (uo + 1) tm em pc0), (ad 14, eArr cI 32 (upN (upN (upN (upN un (4 * uo) (spa 0)) (4 * uo + 1) (hea 0)) (4 * uo + 2) (sna 0)) (4 * uo + 3) (wma 0))), (ad 11, eArr cI 4 (upN spa 0 x)), (ad 12, eArr cI 4 hea), (ad 13, eArr cI 4 sna), (ad 7, eArr cI 4 wma)]) := by
  refine mtI_of (cc := cX7_go) (maxL := 4) (ret := (some .int)) (by decide) rfl rfl ?_
  intro p e s m below meth c A hx hb hml hr hts hown hlocks hN hA hK hP hD hS ls hl
  have hown : s.vm.findClass RX7 = some m.cls := hown
  have hl : lv_has ls 4 [(0, .ref rr), (1, .int (nI 0)), (2, .int (nI x))] := hl
  obtain ⟨H, hHe⟩ : ∃ H, H = s.heap := ⟨_, rfl⟩
  rw [← hHe] at hP ⊢
  have hS : va_S A s.heap H [] := by rw [hHe]; exact va_S.rf
  have fl40 := hts (.fieldLink RX7 40 "EchoPaysRentModel" "speaker" "[I") (by decide +kernel)
  have inX7 : ∀ w ∈ wsX70, w ∈ wsX7_go := by decide +kernel
  refine lv_iload_n hx hb dX7_go_0 rfl (lv_at hl 1 rfl) ?_
  refine n_i2l hx hb dX7_go_1 (by omega) ?_
  refine lv_lconst (v := lN 0) hx hb dX7_go_2 rfl ?_
  refine lv_lconst (v := lN 1) hx hb dX7_go_3 rfl ?_
  refine k_S (As := [.long (lI (((0 : Nat) : Int))), .long (lI (((0 : Nat) : Int))), .long (lI (((1 : Nat) : Int)))]) (wr := [(rr, eMod ad len kp uo tm em pc0), (ad 14, eArr cI 32 un), (ad 11, eArr cI 4 spa), (ad 12, eArr cI 4 hea), (ad 13, eArr cI 4 sna), (ad 7, eArr cI 4 wma)]) ⟨hx, hb, hml, hown, hts⟩ (c_X7_in l D cI cC (((0 : Nat) : Int)) (((0 : Nat) : Int)) (((1 : Nat) : Int)) (by omega) (by omega) (by omega)) (cwS 3 hts gX7_go_X7_in rfl rfl rfl (by decide +kernel) ⟨Nat.le_of_ble_eq_true rfl, Nat.le_of_ble_eq_true rfl⟩) rfl hl.1 (by simp only [nI_iI, lN_lI]; rfl) (Nat.le_of_ble_eq_true rfl) dX7_go_4 ⟨Nat.zero_le _, Nat.zero_le _⟩ hN hK hP hD hS hA [] [0, 1, 2, 3, 4, 5] rfl rfl ⟨rfl, rfl, by decide⟩ (fun r1 u H locs w2 hP hD hS => ?_)
  obtain ⟨rfl, h3, h4⟩ | ⟨rfl, h5⟩ : (r1 = (nI 1) ∧ (((0 : Nat) : Int)) ≤ (((0 : Nat) : Int)) ∧ (((0 : Nat) : Int)) ≤ (((1 : Nat) : Int))) ∨ (r1 = (nI 0) ∧ ((((0 : Nat) : Int)) < (((0 : Nat) : Int)) ∨ (((1 : Nat) : Int)) < (((0 : Nat) : Int)))) := w2
  · refine x_if_eq (tgt := 17) hx hb dX7_go_7 (by decide) (by omega) (fun h6 => False.elim (by omega)) (fun h6 => ?_)
    refine lv_iload_n hx hb dX7_go_10 rfl (lv_at hl 2 rfl) ?_
    refine k_S (As := [.int (iI (((x : Nat) : Int)))]) (wr := [(rr, eMod ad len kp uo tm em pc0), (ad 14, eArr cI 32 un), (ad 11, eArr cI 4 spa), (ad 12, eArr cI 4 hea), (ad 13, eArr cI 4 sna), (ad 7, eArr cI 4 wma)]) ⟨hx, hb, hml, hown, hts⟩ (c_X7_isYard l D cI cC (((x : Nat) : Int)) (by omega)) (cwS 1 hts gX7_go_X7_isYard rfl rfl rfl (by decide +kernel) ⟨Nat.le_of_ble_eq_true rfl, Nat.le_of_ble_eq_true rfl⟩) rfl hl.1 (by simp only [nI_iI]; rfl) (Nat.le_of_ble_eq_true rfl) dX7_go_11 ⟨Nat.zero_le _, Nat.zero_le _⟩ hN hK hP hD hS hA [] [0, 1, 2, 3, 4, 5] rfl rfl ⟨rfl, rfl, by decide⟩ (fun r7 u H locs w8 hP hD hS => ?_)
    obtain ⟨rfl, h9, h10⟩ | ⟨rfl, h11⟩ : (r7 = (nI 1) ∧ 0 ≤ (((x : Nat) : Int)) ∧ (((x : Nat) : Int)) ≤ 40) ∨ (r7 = (nI 0) ∧ ((((x : Nat) : Int)) < 0 ∨ 40 < (((x : Nat) : Int)))) := w8
    · refine x_if_ne (tgt := 19) hx hb dX7_go_14 (by decide) (by omega) (fun h12 => ?_) (fun h12 => False.elim (by omega))
      refine lv_aload_n hx hb dX7_go_19 rfl (lv_at hl 0 rfl) ?_
      refine k_Vv (q := (RX7, TX7, 28)) (ci := 7) (As := []) (wr := []) ⟨hx, hb, hml, hown, hts⟩ (c_X7_note_lt l D cI cC rr ad len kp uo tm em pc0 un spa hea sna wma (by omega)) (cwV 0 hts gX7_go_X7_note rfl rfl rfl (by decide +kernel) ⟨Nat.le_of_ble_eq_true rfl, Nat.le_of_ble_eq_true rfl⟩) rfl hl.1 rfl (Nat.le_of_ble_eq_true rfl) dX7_go_20 ⟨Nat.zero_le _, Nat.zero_le _⟩ hN hK hP hD hS hA rfl (q0 := 0) rfl [0, 1, 2, 3, 4, 5] [] rfl rfl ⟨rfl, rfl, by decide⟩ (fun u H locs w14 hP hD hS => ?_)
      refine lv_iload_n hx hb dX7_go_23 rfl (lv_at hl 1 rfl) ?_
      refine x_if_ne (tgt := 36) hx hb dX7_go_24 (by decide) (by omega) (fun h15 => False.elim (by omega)) (fun h15 => ?_)
      refine lv_aload_n hx hb dX7_go_27 rfl (lv_at hl 0 rfl) ?_
      refine va_get (D := D) (ci := 7) (v := .ref (ad 11)) (C := RX7) (T := TX7) (N := 28) hx hb hts inX7 hown hK hP 0 rfl rfl 11 (by decide) fl40 (fun _ h9 => h9) rfl dX7_go_28 ?_
      refine lv_iconst (v := (nI 0)) hx hb dX7_go_31 (by decide) ?_
      refine x_iald (A := A) hx hb hK hP 2 0 rfl rfl dX7_go_32 (by omega) (by omega) ?_
      refine lv_goto (tgt := 42) hx hb dX7_go_33 (by decide) ?_
      refine lv_istore_n (lv' := [(3, .int (nI (spa 0))), (0, .ref rr), (1, .int (nI 0)), (2, .int (nI x))]) hx hb dX7_go_42 rfl hl (by decide) rfl (fun ls hl => ?_)
      refine lv_iload_n hx hb dX7_go_43 rfl (lv_at hl 2 rfl) ?_
      refine x_if_ne (tgt := 57) hx hb dX7_go_44 (by decide) (by omega) (fun h16 => False.elim (by omega)) (fun h16 => ?_)
      refine lv_aload_n hx hb dX7_go_47 rfl (lv_at hl 1 rfl) ?_
      refine va_get (D := D) (ci := 7) (v := .ref (ad 11)) (C := RX7) (T := TX7) (N := 28) hx hb hts inX7 hown hK hP 0 rfl rfl 11 (by decide) fl40 (fun _ h9 => h9) rfl dX7_go_48 ?_
      refine lv_iconst (v := (nI 0)) hx hb dX7_go_51 (by decide) ?_
      refine lv_iload_n hx hb dX7_go_52 rfl (lv_at hl 3 rfl) ?_
      refine x_iast (A := A) hx hb hK hP hD hS 2 0 rfl rfl dX7_go_53 (by omega) (by omega) (fun H locs hP hD hS => ?_)
      have hP : va_P D vwCl [(rr, eMod ad len kp (uo + 1) tm em pc0), (ad 14, eArr cI 32 (upN (upN (upN (upN un (4 * uo) (spa 0)) (4 * uo + 1) (hea 0)) (4 * uo + 2) (sna 0)) (4 * uo + 3) (wma 0))), (ad 11, eArr cI 4 (upN spa 0 x)), (ad 12, eArr cI 4 hea), (ad 13, eArr cI 4 sna), (ad 7, eArr cI 4 wma)] H := by have h := hP; rw [upd_nI] at h; exact h
      have hD : va_D A [(rr, eMod ad len kp (uo + 1) tm em pc0), (ad 14, eArr cI 32 (upN (upN (upN (upN un (4 * uo) (spa 0)) (4 * uo + 1) (hea 0)) (4 * uo + 2) (sna 0)) (4 * uo + 3) (wma 0))), (ad 11, eArr cI 4 (upN spa 0 x)), (ad 12, eArr cI 4 hea), (ad 13, eArr cI 4 sna), (ad 7, eArr cI 4 wma)] := by have h := hD; rw [upd_nI] at h; exact h
      refine lv_goto (tgt := 64) hx hb dX7_go_54 (by decide) ?_
      refine lv_iload_n hx hb dX7_go_64 rfl (lv_at hl 0 rfl) ?_
      exact x_iret hx hb hr hlocks dX7_go_65 rfl (post := fun (r : Int32) (_ : Unit) => r = (nI (spa 0))) (w1 := fun (_ : Unit) => [(rr, eMod ad len kp (uo + 1) tm em pc0), (ad 14, eArr cI 32 (upN (upN (upN (upN un (4 * uo) (spa 0)) (4 * uo + 1) (hea 0)) (4 * uo + 2) (sna 0)) (4 * uo + 3) (wma 0))), (ad 11, eArr cI 4 (upN spa 0 x)), (ad 12, eArr cI 4 hea), (ad 13, eArr cI 4 sna), (ad 7, eArr cI 4 wma)]) () rfl hK hP hD hS
    · exact False.elim (by omega)
  · exact False.elim (by omega)

set_option maxRecDepth 100000 in
set_option maxHeartbeats 4000000 in
theorem c_X7_go_spfull (l : Launch) (D : va_G) (cI cC : ClassId) (rr : Nat) (ad : Nat → Nat) (len : Nat) (kp : Nat) (uo : Nat) (tm : Nat) (em : Nat) (pc0 : Nat) (un : Nat → Nat) (spa : Nat → Nat) (hea : Nat → Nat) (sna : Nat → Nat) (wma : Nat → Nat) (x : Nat) (hu : uo = 8) (hxx : x ≤ 40) : mtI l D cI cC yX7_go wsX7_go ({ frames := 2, cells := 0, slots := 0, locals := 45 }) [.ref rr, .int (nI 0), .int (nI x)] [(rr, eMod ad len kp uo tm em pc0), (ad 14, eArr cI 32 un), (ad 11, eArr cI 4 spa), (ad 12, eArr cI 4 hea), (ad 13, eArr cI 4 sna), (ad 7, eArr cI 4 wma)] (fun (r : Int32) (_ : Unit) => r = (nI (spa 0))) (fun (_ : Unit) => [(rr, eMod ad len kp (uo - 1 + 1) tm em pc0), (ad 14, eArr cI 32 (upN (upN (upN (upN (shf un 28) (4 * ((uo - 1))) (spa 0)) (4 * ((uo - 1)) + 1) (hea 0)) (4 * ((uo - 1)) + 2) (sna 0)) (4 * ((uo - 1)) + 3) (wma 0))), (ad 11, eArr cI 4 (upN spa 0 x)), (ad 12, eArr cI 4 hea), (ad 13, eArr cI 4 sna), (ad 7, eArr cI 4 wma)]) := by
  refine mtI_of (cc := cX7_go) (maxL := 4) (ret := (some .int)) (by decide) rfl rfl ?_
  intro p e s m below meth c A hx hb hml hr hts hown hlocks hN hA hK hP hD hS ls hl
  have hown : s.vm.findClass RX7 = some m.cls := hown
  have hl : lv_has ls 4 [(0, .ref rr), (1, .int (nI 0)), (2, .int (nI x))] := hl
  obtain ⟨H, hHe⟩ : ∃ H, H = s.heap := ⟨_, rfl⟩
  rw [← hHe] at hP ⊢
  have hS : va_S A s.heap H [] := by rw [hHe]; exact va_S.rf
  have fl40 := hts (.fieldLink RX7 40 "EchoPaysRentModel" "speaker" "[I") (by decide +kernel)
  have inX7 : ∀ w ∈ wsX70, w ∈ wsX7_go := by decide +kernel
  refine lv_iload_n hx hb dX7_go_0 rfl (lv_at hl 1 rfl) ?_
  refine n_i2l hx hb dX7_go_1 (by omega) ?_
  refine lv_lconst (v := lN 0) hx hb dX7_go_2 rfl ?_
  refine lv_lconst (v := lN 1) hx hb dX7_go_3 rfl ?_
  refine k_S (As := [.long (lI (((0 : Nat) : Int))), .long (lI (((0 : Nat) : Int))), .long (lI (((1 : Nat) : Int)))]) (wr := [(rr, eMod ad len kp uo tm em pc0), (ad 14, eArr cI 32 un), (ad 11, eArr cI 4 spa), (ad 12, eArr cI 4 hea), (ad 13, eArr cI 4 sna), (ad 7, eArr cI 4 wma)]) ⟨hx, hb, hml, hown, hts⟩ (c_X7_in l D cI cC (((0 : Nat) : Int)) (((0 : Nat) : Int)) (((1 : Nat) : Int)) (by omega) (by omega) (by omega)) (cwS 3 hts gX7_go_X7_in rfl rfl rfl (by decide +kernel) ⟨Nat.le_of_ble_eq_true rfl, Nat.le_of_ble_eq_true rfl⟩) rfl hl.1 (by simp only [nI_iI, lN_lI]; rfl) (Nat.le_of_ble_eq_true rfl) dX7_go_4 ⟨Nat.zero_le _, Nat.zero_le _⟩ hN hK hP hD hS hA [] [0, 1, 2, 3, 4, 5] rfl rfl ⟨rfl, rfl, by decide⟩ (fun r1 u H locs w2 hP hD hS => ?_)
  obtain ⟨rfl, h3, h4⟩ | ⟨rfl, h5⟩ : (r1 = (nI 1) ∧ (((0 : Nat) : Int)) ≤ (((0 : Nat) : Int)) ∧ (((0 : Nat) : Int)) ≤ (((1 : Nat) : Int))) ∨ (r1 = (nI 0) ∧ ((((0 : Nat) : Int)) < (((0 : Nat) : Int)) ∨ (((1 : Nat) : Int)) < (((0 : Nat) : Int)))) := w2
  · refine x_if_eq (tgt := 17) hx hb dX7_go_7 (by decide) (by omega) (fun h6 => False.elim (by omega)) (fun h6 => ?_)
    refine lv_iload_n hx hb dX7_go_10 rfl (lv_at hl 2 rfl) ?_
    refine k_S (As := [.int (iI (((x : Nat) : Int)))]) (wr := [(rr, eMod ad len kp uo tm em pc0), (ad 14, eArr cI 32 un), (ad 11, eArr cI 4 spa), (ad 12, eArr cI 4 hea), (ad 13, eArr cI 4 sna), (ad 7, eArr cI 4 wma)]) ⟨hx, hb, hml, hown, hts⟩ (c_X7_isYard l D cI cC (((x : Nat) : Int)) (by omega)) (cwS 1 hts gX7_go_X7_isYard rfl rfl rfl (by decide +kernel) ⟨Nat.le_of_ble_eq_true rfl, Nat.le_of_ble_eq_true rfl⟩) rfl hl.1 (by simp only [nI_iI]; rfl) (Nat.le_of_ble_eq_true rfl) dX7_go_11 ⟨Nat.zero_le _, Nat.zero_le _⟩ hN hK hP hD hS hA [] [0, 1, 2, 3, 4, 5] rfl rfl ⟨rfl, rfl, by decide⟩ (fun r7 u H locs w8 hP hD hS => ?_)
    obtain ⟨rfl, h9, h10⟩ | ⟨rfl, h11⟩ : (r7 = (nI 1) ∧ 0 ≤ (((x : Nat) : Int)) ∧ (((x : Nat) : Int)) ≤ 40) ∨ (r7 = (nI 0) ∧ ((((x : Nat) : Int)) < 0 ∨ 40 < (((x : Nat) : Int)))) := w8
    · refine x_if_ne (tgt := 19) hx hb dX7_go_14 (by decide) (by omega) (fun h12 => ?_) (fun h12 => False.elim (by omega))
      refine lv_aload_n hx hb dX7_go_19 rfl (lv_at hl 0 rfl) ?_
      refine k_Vv (q := (RX7, TX7, 28)) (ci := 7) (As := []) (wr := []) ⟨hx, hb, hml, hown, hts⟩ (c_X7_note_full l D cI cC rr ad len kp uo tm em pc0 un spa hea sna wma (by omega)) (cwV 0 hts gX7_go_X7_note rfl rfl rfl (by decide +kernel) ⟨Nat.le_of_ble_eq_true rfl, Nat.le_of_ble_eq_true rfl⟩) rfl hl.1 rfl (Nat.le_of_ble_eq_true rfl) dX7_go_20 ⟨Nat.zero_le _, Nat.zero_le _⟩ hN hK hP hD hS hA rfl (q0 := 0) rfl [0, 1, 2, 3, 4, 5] [] rfl rfl ⟨rfl, rfl, by decide⟩ (fun u H locs w14 hP hD hS => ?_)
      refine lv_iload_n hx hb dX7_go_23 rfl (lv_at hl 1 rfl) ?_
      refine x_if_ne (tgt := 36) hx hb dX7_go_24 (by decide) (by omega) (fun h15 => False.elim (by omega)) (fun h15 => ?_)
      refine lv_aload_n hx hb dX7_go_27 rfl (lv_at hl 0 rfl) ?_
      refine va_get (D := D) (ci := 7) (v := .ref (ad 11)) (C := RX7) (T := TX7) (N := 28) hx hb hts inX7 hown hK hP 0 rfl rfl 11 (by decide) fl40 (fun _ h9 => h9) rfl dX7_go_28 ?_
      refine lv_iconst (v := (nI 0)) hx hb dX7_go_31 (by decide) ?_
      refine x_iald (A := A) hx hb hK hP 2 0 rfl rfl dX7_go_32 (by omega) (by omega) ?_
      refine lv_goto (tgt := 42) hx hb dX7_go_33 (by decide) ?_
      refine lv_istore_n (lv' := [(3, .int (nI (spa 0))), (0, .ref rr), (1, .int (nI 0)), (2, .int (nI x))]) hx hb dX7_go_42 rfl hl (by decide) rfl (fun ls hl => ?_)
      refine lv_iload_n hx hb dX7_go_43 rfl (lv_at hl 2 rfl) ?_
      refine x_if_ne (tgt := 57) hx hb dX7_go_44 (by decide) (by omega) (fun h16 => False.elim (by omega)) (fun h16 => ?_)
      refine lv_aload_n hx hb dX7_go_47 rfl (lv_at hl 1 rfl) ?_
      refine va_get (D := D) (ci := 7) (v := .ref (ad 11)) (C := RX7) (T := TX7) (N := 28) hx hb hts inX7 hown hK hP 0 rfl rfl 11 (by decide) fl40 (fun _ h9 => h9) rfl dX7_go_48 ?_
      refine lv_iconst (v := (nI 0)) hx hb dX7_go_51 (by decide) ?_
      refine lv_iload_n hx hb dX7_go_52 rfl (lv_at hl 3 rfl) ?_
      refine x_iast (A := A) hx hb hK hP hD hS 2 0 rfl rfl dX7_go_53 (by omega) (by omega) (fun H locs hP hD hS => ?_)
      have hP : va_P D vwCl [(rr, eMod ad len kp (uo - 1 + 1) tm em pc0), (ad 14, eArr cI 32 (upN (upN (upN (upN (shf un 28) (4 * ((uo - 1))) (spa 0)) (4 * ((uo - 1)) + 1) (hea 0)) (4 * ((uo - 1)) + 2) (sna 0)) (4 * ((uo - 1)) + 3) (wma 0))), (ad 11, eArr cI 4 (upN spa 0 x)), (ad 12, eArr cI 4 hea), (ad 13, eArr cI 4 sna), (ad 7, eArr cI 4 wma)] H := by have h := hP; rw [upd_nI] at h; exact h
      have hD : va_D A [(rr, eMod ad len kp (uo - 1 + 1) tm em pc0), (ad 14, eArr cI 32 (upN (upN (upN (upN (shf un 28) (4 * ((uo - 1))) (spa 0)) (4 * ((uo - 1)) + 1) (hea 0)) (4 * ((uo - 1)) + 2) (sna 0)) (4 * ((uo - 1)) + 3) (wma 0))), (ad 11, eArr cI 4 (upN spa 0 x)), (ad 12, eArr cI 4 hea), (ad 13, eArr cI 4 sna), (ad 7, eArr cI 4 wma)] := by have h := hD; rw [upd_nI] at h; exact h
      refine lv_goto (tgt := 64) hx hb dX7_go_54 (by decide) ?_
      refine lv_iload_n hx hb dX7_go_64 rfl (lv_at hl 0 rfl) ?_
      exact x_iret hx hb hr hlocks dX7_go_65 rfl (post := fun (r : Int32) (_ : Unit) => r = (nI (spa 0))) (w1 := fun (_ : Unit) => [(rr, eMod ad len kp (uo - 1 + 1) tm em pc0), (ad 14, eArr cI 32 (upN (upN (upN (upN (shf un 28) (4 * ((uo - 1))) (spa 0)) (4 * ((uo - 1)) + 1) (hea 0)) (4 * ((uo - 1)) + 2) (sna 0)) (4 * ((uo - 1)) + 3) (wma 0))), (ad 11, eArr cI 4 (upN spa 0 x)), (ad 12, eArr cI 4 hea), (ad 13, eArr cI 4 sna), (ad 7, eArr cI 4 wma)]) () rfl hK hP hD hS
    · exact False.elim (by omega)
  · exact False.elim (by omega)

set_option maxRecDepth 100000 in
set_option maxHeartbeats 4000000 in
theorem c_X7_go_helt (l : Launch) (D : va_G) (cI cC : ClassId) (rr : Nat) (ad : Nat → Nat) (len : Nat) (kp : Nat) (uo : Nat) (tm : Nat) (em : Nat) (pc0 : Nat) (un : Nat → Nat) (spa : Nat → Nat) (hea : Nat → Nat) (sna : Nat → Nat) (wma : Nat → Nat) (x : Nat) (hu : uo < 8) (hxx : x ≤ 40) : mtI l D cI cC yX7_go wsX7_go ({ frames := 2, cells := 0, slots := 0, locals := 45 }) [.ref rr, .int (nI 1), .int (nI x)] [(rr, eMod ad len kp uo tm em pc0), (ad 14, eArr cI 32 un), (ad 11, eArr cI 4 spa), (ad 12, eArr cI 4 hea), (ad 13, eArr cI 4 sna), (ad 7, eArr cI 4 wma)] (fun (r : Int32) (_ : Unit) => r = (nI (hea 0))) (fun (_ : Unit) => [(rr, eMod ad len kp (uo + 1) tm em pc0), (ad 14, eArr cI 32 (upN (upN (upN (upN un (4 * uo) (spa 0)) (4 * uo + 1) (hea 0)) (4 * uo + 2) (sna 0)) (4 * uo + 3) (wma 0))), (ad 11, eArr cI 4 spa), (ad 12, eArr cI 4 (upN hea 0 x)), (ad 13, eArr cI 4 sna), (ad 7, eArr cI 4 wma)]) := by
  refine mtI_of (cc := cX7_go) (maxL := 4) (ret := (some .int)) (by decide) rfl rfl ?_
  intro p e s m below meth c A hx hb hml hr hts hown hlocks hN hA hK hP hD hS ls hl
  have hown : s.vm.findClass RX7 = some m.cls := hown
  have hl : lv_has ls 4 [(0, .ref rr), (1, .int (nI 1)), (2, .int (nI x))] := hl
  obtain ⟨H, hHe⟩ : ∃ H, H = s.heap := ⟨_, rfl⟩
  rw [← hHe] at hP ⊢
  have hS : va_S A s.heap H [] := by rw [hHe]; exact va_S.rf
  have fl43 := hts (.fieldLink RX7 43 "EchoPaysRentModel" "hearer" "[I") (by decide +kernel)
  have inX7 : ∀ w ∈ wsX70, w ∈ wsX7_go := by decide +kernel
  refine lv_iload_n hx hb dX7_go_0 rfl (lv_at hl 1 rfl) ?_
  refine n_i2l hx hb dX7_go_1 (by omega) ?_
  refine lv_lconst (v := lN 0) hx hb dX7_go_2 rfl ?_
  refine lv_lconst (v := lN 1) hx hb dX7_go_3 rfl ?_
  refine k_S (As := [.long (lI (((1 : Nat) : Int))), .long (lI (((0 : Nat) : Int))), .long (lI (((1 : Nat) : Int)))]) (wr := [(rr, eMod ad len kp uo tm em pc0), (ad 14, eArr cI 32 un), (ad 11, eArr cI 4 spa), (ad 12, eArr cI 4 hea), (ad 13, eArr cI 4 sna), (ad 7, eArr cI 4 wma)]) ⟨hx, hb, hml, hown, hts⟩ (c_X7_in l D cI cC (((1 : Nat) : Int)) (((0 : Nat) : Int)) (((1 : Nat) : Int)) (by omega) (by omega) (by omega)) (cwS 3 hts gX7_go_X7_in rfl rfl rfl (by decide +kernel) ⟨Nat.le_of_ble_eq_true rfl, Nat.le_of_ble_eq_true rfl⟩) rfl hl.1 (by simp only [nI_iI, lN_lI]; rfl) (Nat.le_of_ble_eq_true rfl) dX7_go_4 ⟨Nat.zero_le _, Nat.zero_le _⟩ hN hK hP hD hS hA [] [0, 1, 2, 3, 4, 5] rfl rfl ⟨rfl, rfl, by decide⟩ (fun r1 u H locs w2 hP hD hS => ?_)
  obtain ⟨rfl, h3, h4⟩ | ⟨rfl, h5⟩ : (r1 = (nI 1) ∧ (((0 : Nat) : Int)) ≤ (((1 : Nat) : Int)) ∧ (((1 : Nat) : Int)) ≤ (((1 : Nat) : Int))) ∨ (r1 = (nI 0) ∧ ((((1 : Nat) : Int)) < (((0 : Nat) : Int)) ∨ (((1 : Nat) : Int)) < (((1 : Nat) : Int)))) := w2
  · refine x_if_eq (tgt := 17) hx hb dX7_go_7 (by decide) (by omega) (fun h6 => False.elim (by omega)) (fun h6 => ?_)
    refine lv_iload_n hx hb dX7_go_10 rfl (lv_at hl 2 rfl) ?_
    refine k_S (As := [.int (iI (((x : Nat) : Int)))]) (wr := [(rr, eMod ad len kp uo tm em pc0), (ad 14, eArr cI 32 un), (ad 11, eArr cI 4 spa), (ad 12, eArr cI 4 hea), (ad 13, eArr cI 4 sna), (ad 7, eArr cI 4 wma)]) ⟨hx, hb, hml, hown, hts⟩ (c_X7_isYard l D cI cC (((x : Nat) : Int)) (by omega)) (cwS 1 hts gX7_go_X7_isYard rfl rfl rfl (by decide +kernel) ⟨Nat.le_of_ble_eq_true rfl, Nat.le_of_ble_eq_true rfl⟩) rfl hl.1 (by simp only [nI_iI]; rfl) (Nat.le_of_ble_eq_true rfl) dX7_go_11 ⟨Nat.zero_le _, Nat.zero_le _⟩ hN hK hP hD hS hA [] [0, 1, 2, 3, 4, 5] rfl rfl ⟨rfl, rfl, by decide⟩ (fun r7 u H locs w8 hP hD hS => ?_)
    obtain ⟨rfl, h9, h10⟩ | ⟨rfl, h11⟩ : (r7 = (nI 1) ∧ 0 ≤ (((x : Nat) : Int)) ∧ (((x : Nat) : Int)) ≤ 40) ∨ (r7 = (nI 0) ∧ ((((x : Nat) : Int)) < 0 ∨ 40 < (((x : Nat) : Int)))) := w8
    · refine x_if_ne (tgt := 19) hx hb dX7_go_14 (by decide) (by omega) (fun h12 => ?_) (fun h12 => False.elim (by omega))
      refine lv_aload_n hx hb dX7_go_19 rfl (lv_at hl 0 rfl) ?_
      refine k_Vv (q := (RX7, TX7, 28)) (ci := 7) (As := []) (wr := []) ⟨hx, hb, hml, hown, hts⟩ (c_X7_note_lt l D cI cC rr ad len kp uo tm em pc0 un spa hea sna wma (by omega)) (cwV 0 hts gX7_go_X7_note rfl rfl rfl (by decide +kernel) ⟨Nat.le_of_ble_eq_true rfl, Nat.le_of_ble_eq_true rfl⟩) rfl hl.1 rfl (Nat.le_of_ble_eq_true rfl) dX7_go_20 ⟨Nat.zero_le _, Nat.zero_le _⟩ hN hK hP hD hS hA rfl (q0 := 0) rfl [0, 1, 2, 3, 4, 5] [] rfl rfl ⟨rfl, rfl, by decide⟩ (fun u H locs w14 hP hD hS => ?_)
      refine lv_iload_n hx hb dX7_go_23 rfl (lv_at hl 1 rfl) ?_
      refine x_if_ne (tgt := 36) hx hb dX7_go_24 (by decide) (by omega) (fun h15 => ?_) (fun h15 => False.elim (by omega))
      refine lv_aload_n hx hb dX7_go_36 rfl (lv_at hl 0 rfl) ?_
      refine va_get (D := D) (ci := 7) (v := .ref (ad 12)) (C := RX7) (T := TX7) (N := 28) hx hb hts inX7 hown hK hP 0 rfl rfl 12 (by decide) fl43 (fun _ h9 => h9) rfl dX7_go_37 ?_
      refine lv_iconst (v := (nI 0)) hx hb dX7_go_40 (by decide) ?_
      refine x_iald (A := A) hx hb hK hP 3 0 rfl rfl dX7_go_41 (by omega) (by omega) ?_
      refine lv_istore_n (lv' := [(3, .int (nI (hea 0))), (0, .ref rr), (1, .int (nI 1)), (2, .int (nI x))]) hx hb dX7_go_42 rfl hl (by decide) rfl (fun ls hl => ?_)
      refine lv_iload_n hx hb dX7_go_43 rfl (lv_at hl 2 rfl) ?_
      refine x_if_ne (tgt := 57) hx hb dX7_go_44 (by decide) (by omega) (fun h16 => ?_) (fun h16 => False.elim (by omega))
      refine lv_aload_n hx hb dX7_go_57 rfl (lv_at hl 1 rfl) ?_
      refine va_get (D := D) (ci := 7) (v := .ref (ad 12)) (C := RX7) (T := TX7) (N := 28) hx hb hts inX7 hown hK hP 0 rfl rfl 12 (by decide) fl43 (fun _ h9 => h9) rfl dX7_go_58 ?_
      refine lv_iconst (v := (nI 0)) hx hb dX7_go_61 (by decide) ?_
      refine lv_iload_n hx hb dX7_go_62 rfl (lv_at hl 3 rfl) ?_
      refine x_iast (A := A) hx hb hK hP hD hS 3 0 rfl rfl dX7_go_63 (by omega) (by omega) (fun H locs hP hD hS => ?_)
      have hP : va_P D vwCl [(rr, eMod ad len kp (uo + 1) tm em pc0), (ad 14, eArr cI 32 (upN (upN (upN (upN un (4 * uo) (spa 0)) (4 * uo + 1) (hea 0)) (4 * uo + 2) (sna 0)) (4 * uo + 3) (wma 0))), (ad 11, eArr cI 4 spa), (ad 12, eArr cI 4 (upN hea 0 x)), (ad 13, eArr cI 4 sna), (ad 7, eArr cI 4 wma)] H := by have h := hP; rw [upd_nI] at h; exact h
      have hD : va_D A [(rr, eMod ad len kp (uo + 1) tm em pc0), (ad 14, eArr cI 32 (upN (upN (upN (upN un (4 * uo) (spa 0)) (4 * uo + 1) (hea 0)) (4 * uo + 2) (sna 0)) (4 * uo + 3) (wma 0))), (ad 11, eArr cI 4 spa), (ad 12, eArr cI 4 (upN hea 0 x)), (ad 13, eArr cI 4 sna), (ad 7, eArr cI 4 wma)] := by have h := hD; rw [upd_nI] at h; exact h
      refine lv_iload_n hx hb dX7_go_64 rfl (lv_at hl 0 rfl) ?_
      exact x_iret hx hb hr hlocks dX7_go_65 rfl (post := fun (r : Int32) (_ : Unit) => r = (nI (hea 0))) (w1 := fun (_ : Unit) => [(rr, eMod ad len kp (uo + 1) tm em pc0), (ad 14, eArr cI 32 (upN (upN (upN (upN un (4 * uo) (spa 0)) (4 * uo + 1) (hea 0)) (4 * uo + 2) (sna 0)) (4 * uo + 3) (wma 0))), (ad 11, eArr cI 4 spa), (ad 12, eArr cI 4 (upN hea 0 x)), (ad 13, eArr cI 4 sna), (ad 7, eArr cI 4 wma)]) () rfl hK hP hD hS
    · exact False.elim (by omega)
  · exact False.elim (by omega)

set_option maxRecDepth 100000 in
set_option maxHeartbeats 4000000 in
theorem c_X7_go_hefull (l : Launch) (D : va_G) (cI cC : ClassId) (rr : Nat) (ad : Nat → Nat) (len : Nat) (kp : Nat) (uo : Nat) (tm : Nat) (em : Nat) (pc0 : Nat) (un : Nat → Nat) (spa : Nat → Nat) (hea : Nat → Nat) (sna : Nat → Nat) (wma : Nat → Nat) (x : Nat) (hu : uo = 8) (hxx : x ≤ 40) : mtI l D cI cC yX7_go wsX7_go ({ frames := 2, cells := 0, slots := 0, locals := 45 }) [.ref rr, .int (nI 1), .int (nI x)] [(rr, eMod ad len kp uo tm em pc0), (ad 14, eArr cI 32 un), (ad 11, eArr cI 4 spa), (ad 12, eArr cI 4 hea), (ad 13, eArr cI 4 sna), (ad 7, eArr cI 4 wma)] (fun (r : Int32) (_ : Unit) => r = (nI (hea 0))) (fun (_ : Unit) => [(rr, eMod ad len kp (uo - 1 + 1) tm em pc0), (ad 14, eArr cI 32 (upN (upN (upN (upN (shf un 28) (4 * ((uo - 1))) (spa 0)) (4 * ((uo - 1)) + 1) (hea 0)) (4 * ((uo - 1)) + 2) (sna 0)) (4 * ((uo - 1)) + 3) (wma 0))), (ad 11, eArr cI 4 spa), (ad 12, eArr cI 4 (upN hea 0 x)), (ad 13, eArr cI 4 sna), (ad 7, eArr cI 4 wma)]) := by
  refine mtI_of (cc := cX7_go) (maxL := 4) (ret := (some .int)) (by decide) rfl rfl ?_
  intro p e s m below meth c A hx hb hml hr hts hown hlocks hN hA hK hP hD hS ls hl
  have hown : s.vm.findClass RX7 = some m.cls := hown
  have hl : lv_has ls 4 [(0, .ref rr), (1, .int (nI 1)), (2, .int (nI x))] := hl
  obtain ⟨H, hHe⟩ : ∃ H, H = s.heap := ⟨_, rfl⟩
  rw [← hHe] at hP ⊢
  have hS : va_S A s.heap H [] := by rw [hHe]; exact va_S.rf
  have fl43 := hts (.fieldLink RX7 43 "EchoPaysRentModel" "hearer" "[I") (by decide +kernel)
  have inX7 : ∀ w ∈ wsX70, w ∈ wsX7_go := by decide +kernel
  refine lv_iload_n hx hb dX7_go_0 rfl (lv_at hl 1 rfl) ?_
  refine n_i2l hx hb dX7_go_1 (by omega) ?_
  refine lv_lconst (v := lN 0) hx hb dX7_go_2 rfl ?_
  refine lv_lconst (v := lN 1) hx hb dX7_go_3 rfl ?_
  refine k_S (As := [.long (lI (((1 : Nat) : Int))), .long (lI (((0 : Nat) : Int))), .long (lI (((1 : Nat) : Int)))]) (wr := [(rr, eMod ad len kp uo tm em pc0), (ad 14, eArr cI 32 un), (ad 11, eArr cI 4 spa), (ad 12, eArr cI 4 hea), (ad 13, eArr cI 4 sna), (ad 7, eArr cI 4 wma)]) ⟨hx, hb, hml, hown, hts⟩ (c_X7_in l D cI cC (((1 : Nat) : Int)) (((0 : Nat) : Int)) (((1 : Nat) : Int)) (by omega) (by omega) (by omega)) (cwS 3 hts gX7_go_X7_in rfl rfl rfl (by decide +kernel) ⟨Nat.le_of_ble_eq_true rfl, Nat.le_of_ble_eq_true rfl⟩) rfl hl.1 (by simp only [nI_iI, lN_lI]; rfl) (Nat.le_of_ble_eq_true rfl) dX7_go_4 ⟨Nat.zero_le _, Nat.zero_le _⟩ hN hK hP hD hS hA [] [0, 1, 2, 3, 4, 5] rfl rfl ⟨rfl, rfl, by decide⟩ (fun r1 u H locs w2 hP hD hS => ?_)
  obtain ⟨rfl, h3, h4⟩ | ⟨rfl, h5⟩ : (r1 = (nI 1) ∧ (((0 : Nat) : Int)) ≤ (((1 : Nat) : Int)) ∧ (((1 : Nat) : Int)) ≤ (((1 : Nat) : Int))) ∨ (r1 = (nI 0) ∧ ((((1 : Nat) : Int)) < (((0 : Nat) : Int)) ∨ (((1 : Nat) : Int)) < (((1 : Nat) : Int)))) := w2
  · refine x_if_eq (tgt := 17) hx hb dX7_go_7 (by decide) (by omega) (fun h6 => False.elim (by omega)) (fun h6 => ?_)
    refine lv_iload_n hx hb dX7_go_10 rfl (lv_at hl 2 rfl) ?_
    refine k_S (As := [.int (iI (((x : Nat) : Int)))]) (wr := [(rr, eMod ad len kp uo tm em pc0), (ad 14, eArr cI 32 un), (ad 11, eArr cI 4 spa), (ad 12, eArr cI 4 hea), (ad 13, eArr cI 4 sna), (ad 7, eArr cI 4 wma)]) ⟨hx, hb, hml, hown, hts⟩ (c_X7_isYard l D cI cC (((x : Nat) : Int)) (by omega)) (cwS 1 hts gX7_go_X7_isYard rfl rfl rfl (by decide +kernel) ⟨Nat.le_of_ble_eq_true rfl, Nat.le_of_ble_eq_true rfl⟩) rfl hl.1 (by simp only [nI_iI]; rfl) (Nat.le_of_ble_eq_true rfl) dX7_go_11 ⟨Nat.zero_le _, Nat.zero_le _⟩ hN hK hP hD hS hA [] [0, 1, 2, 3, 4, 5] rfl rfl ⟨rfl, rfl, by decide⟩ (fun r7 u H locs w8 hP hD hS => ?_)
    obtain ⟨rfl, h9, h10⟩ | ⟨rfl, h11⟩ : (r7 = (nI 1) ∧ 0 ≤ (((x : Nat) : Int)) ∧ (((x : Nat) : Int)) ≤ 40) ∨ (r7 = (nI 0) ∧ ((((x : Nat) : Int)) < 0 ∨ 40 < (((x : Nat) : Int)))) := w8
    · refine x_if_ne (tgt := 19) hx hb dX7_go_14 (by decide) (by omega) (fun h12 => ?_) (fun h12 => False.elim (by omega))
      refine lv_aload_n hx hb dX7_go_19 rfl (lv_at hl 0 rfl) ?_
      refine k_Vv (q := (RX7, TX7, 28)) (ci := 7) (As := []) (wr := []) ⟨hx, hb, hml, hown, hts⟩ (c_X7_note_full l D cI cC rr ad len kp uo tm em pc0 un spa hea sna wma (by omega)) (cwV 0 hts gX7_go_X7_note rfl rfl rfl (by decide +kernel) ⟨Nat.le_of_ble_eq_true rfl, Nat.le_of_ble_eq_true rfl⟩) rfl hl.1 rfl (Nat.le_of_ble_eq_true rfl) dX7_go_20 ⟨Nat.zero_le _, Nat.zero_le _⟩ hN hK hP hD hS hA rfl (q0 := 0) rfl [0, 1, 2, 3, 4, 5] [] rfl rfl ⟨rfl, rfl, by decide⟩ (fun u H locs w14 hP hD hS => ?_)
      refine lv_iload_n hx hb dX7_go_23 rfl (lv_at hl 1 rfl) ?_
      refine x_if_ne (tgt := 36) hx hb dX7_go_24 (by decide) (by omega) (fun h15 => ?_) (fun h15 => False.elim (by omega))
      refine lv_aload_n hx hb dX7_go_36 rfl (lv_at hl 0 rfl) ?_
      refine va_get (D := D) (ci := 7) (v := .ref (ad 12)) (C := RX7) (T := TX7) (N := 28) hx hb hts inX7 hown hK hP 0 rfl rfl 12 (by decide) fl43 (fun _ h9 => h9) rfl dX7_go_37 ?_
      refine lv_iconst (v := (nI 0)) hx hb dX7_go_40 (by decide) ?_
      refine x_iald (A := A) hx hb hK hP 3 0 rfl rfl dX7_go_41 (by omega) (by omega) ?_
      refine lv_istore_n (lv' := [(3, .int (nI (hea 0))), (0, .ref rr), (1, .int (nI 1)), (2, .int (nI x))]) hx hb dX7_go_42 rfl hl (by decide) rfl (fun ls hl => ?_)
      refine lv_iload_n hx hb dX7_go_43 rfl (lv_at hl 2 rfl) ?_
      refine x_if_ne (tgt := 57) hx hb dX7_go_44 (by decide) (by omega) (fun h16 => ?_) (fun h16 => False.elim (by omega))
      refine lv_aload_n hx hb dX7_go_57 rfl (lv_at hl 1 rfl) ?_
      refine va_get (D := D) (ci := 7) (v := .ref (ad 12)) (C := RX7) (T := TX7) (N := 28) hx hb hts inX7 hown hK hP 0 rfl rfl 12 (by decide) fl43 (fun _ h9 => h9) rfl dX7_go_58 ?_
      refine lv_iconst (v := (nI 0)) hx hb dX7_go_61 (by decide) ?_
      refine lv_iload_n hx hb dX7_go_62 rfl (lv_at hl 3 rfl) ?_
      refine x_iast (A := A) hx hb hK hP hD hS 3 0 rfl rfl dX7_go_63 (by omega) (by omega) (fun H locs hP hD hS => ?_)
      have hP : va_P D vwCl [(rr, eMod ad len kp (uo - 1 + 1) tm em pc0), (ad 14, eArr cI 32 (upN (upN (upN (upN (shf un 28) (4 * ((uo - 1))) (spa 0)) (4 * ((uo - 1)) + 1) (hea 0)) (4 * ((uo - 1)) + 2) (sna 0)) (4 * ((uo - 1)) + 3) (wma 0))), (ad 11, eArr cI 4 spa), (ad 12, eArr cI 4 (upN hea 0 x)), (ad 13, eArr cI 4 sna), (ad 7, eArr cI 4 wma)] H := by have h := hP; rw [upd_nI] at h; exact h
      have hD : va_D A [(rr, eMod ad len kp (uo - 1 + 1) tm em pc0), (ad 14, eArr cI 32 (upN (upN (upN (upN (shf un 28) (4 * ((uo - 1))) (spa 0)) (4 * ((uo - 1)) + 1) (hea 0)) (4 * ((uo - 1)) + 2) (sna 0)) (4 * ((uo - 1)) + 3) (wma 0))), (ad 11, eArr cI 4 spa), (ad 12, eArr cI 4 (upN hea 0 x)), (ad 13, eArr cI 4 sna), (ad 7, eArr cI 4 wma)] := by have h := hD; rw [upd_nI] at h; exact h
      refine lv_iload_n hx hb dX7_go_64 rfl (lv_at hl 0 rfl) ?_
      exact x_iret hx hb hr hlocks dX7_go_65 rfl (post := fun (r : Int32) (_ : Unit) => r = (nI (hea 0))) (w1 := fun (_ : Unit) => [(rr, eMod ad len kp (uo - 1 + 1) tm em pc0), (ad 14, eArr cI 32 (upN (upN (upN (upN (shf un 28) (4 * ((uo - 1))) (spa 0)) (4 * ((uo - 1)) + 1) (hea 0)) (4 * ((uo - 1)) + 2) (sna 0)) (4 * ((uo - 1)) + 3) (wma 0))), (ad 11, eArr cI 4 spa), (ad 12, eArr cI 4 (upN hea 0 x)), (ad 13, eArr cI 4 sna), (ad 7, eArr cI 4 wma)]) () rfl hK hP hD hS
    · exact False.elim (by omega)
  · exact False.elim (by omega)

set_option maxRecDepth 100000 in
set_option maxHeartbeats 4000000 in
theorem c_X7_go_bad (l : Launch) (D : va_G) (cI cC : ClassId) (rr : Nat) (ad : Nat → Nat) (len : Nat) (kp : Nat) (uo : Nat) (tm : Nat) (em : Nat) (pc0 : Nat) (z : Int) (z2 : Int) (hz : -2147483648 ≤ z ∧ z < 2147483648) (hz2 : -2147483648 ≤ z2 ∧ z2 < 2147483648) (hbad : (z < 0 ∨ 1 < z) ∨ (z2 < 0 ∨ 40 < z2)) : mtI l D cI cC yX7_go wsX7_go ({ frames := 2, cells := 0, slots := 0, locals := 45 }) [.ref rr, .int (iI z), .int (iI z2)] [(rr, eMod ad len kp uo tm em pc0)] (fun (r : Int32) (_ : Unit) => r = (iI (-1))) (fun (_ : Unit) => [(rr, eMod ad len kp uo tm em pc0)]) := by
  refine mtI_of (cc := cX7_go) (maxL := 4) (ret := (some .int)) (by decide) rfl rfl ?_
  intro p e s m below meth c A hx hb hml hr hts hown hlocks hN hA hK hP hD hS ls hl
  have hown : s.vm.findClass RX7 = some m.cls := hown
  have hl : lv_has ls 4 [(0, .ref rr), (1, .int (iI z)), (2, .int (iI z2))] := hl
  obtain ⟨H, hHe⟩ : ∃ H, H = s.heap := ⟨_, rfl⟩
  rw [← hHe] at hP ⊢
  have hS : va_S A s.heap H [] := by rw [hHe]; exact va_S.rf
  refine lv_iload_n hx hb dX7_go_0 rfl (lv_at hl 1 rfl) ?_
  refine z_i2l hx hb dX7_go_1 (by omega) ?_
  refine lv_lconst (v := lN 0) hx hb dX7_go_2 rfl ?_
  refine lv_lconst (v := lN 1) hx hb dX7_go_3 rfl ?_
  refine k_S (As := [.long (lI z), .long (lI (((0 : Nat) : Int))), .long (lI (((1 : Nat) : Int)))]) (wr := [(rr, eMod ad len kp uo tm em pc0)]) ⟨hx, hb, hml, hown, hts⟩ (c_X7_in l D cI cC z (((0 : Nat) : Int)) (((1 : Nat) : Int)) (by omega) (by omega) (by omega)) (cwS 3 hts gX7_go_X7_in rfl rfl rfl (by decide +kernel) ⟨Nat.le_of_ble_eq_true rfl, Nat.le_of_ble_eq_true rfl⟩) rfl hl.1 (by simp only [nI_iI, lN_lI]; rfl) (Nat.le_of_ble_eq_true rfl) dX7_go_4 ⟨Nat.zero_le _, Nat.zero_le _⟩ hN hK hP hD hS hA [] [0] rfl rfl ⟨rfl, rfl, by decide⟩ (fun r1 u H locs w2 hP hD hS => ?_)
  obtain ⟨rfl, h3, h4⟩ | ⟨rfl, h5⟩ : (r1 = (nI 1) ∧ (((0 : Nat) : Int)) ≤ z ∧ z ≤ (((1 : Nat) : Int))) ∨ (r1 = (nI 0) ∧ (z < (((0 : Nat) : Int)) ∨ (((1 : Nat) : Int)) < z)) := w2
  · refine x_if_eq (tgt := 17) hx hb dX7_go_7 (by decide) (by omega) (fun h6 => False.elim (by omega)) (fun h6 => ?_)
    refine lv_iload_n hx hb dX7_go_10 rfl (lv_at hl 2 rfl) ?_
    refine k_S (As := [.int (iI z2)]) (wr := [(rr, eMod ad len kp uo tm em pc0)]) ⟨hx, hb, hml, hown, hts⟩ (c_X7_isYard l D cI cC z2 (by omega)) (cwS 1 hts gX7_go_X7_isYard rfl rfl rfl (by decide +kernel) ⟨Nat.le_of_ble_eq_true rfl, Nat.le_of_ble_eq_true rfl⟩) rfl hl.1 rfl (Nat.le_of_ble_eq_true rfl) dX7_go_11 ⟨Nat.zero_le _, Nat.zero_le _⟩ hN hK hP hD hS hA [] [0] rfl rfl ⟨rfl, rfl, by decide⟩ (fun r7 u H locs w8 hP hD hS => ?_)
    obtain ⟨rfl, h9, h10⟩ | ⟨rfl, h11⟩ : (r7 = (nI 1) ∧ 0 ≤ z2 ∧ z2 ≤ 40) ∨ (r7 = (nI 0) ∧ (z2 < 0 ∨ 40 < z2)) := w8
    · refine x_if_ne (tgt := 19) hx hb dX7_go_14 (by decide) (by omega) (fun h12 => ?_) (fun h12 => False.elim (by omega))
      exact False.elim (by omega)
    · refine x_if_ne (tgt := 19) hx hb dX7_go_14 (by decide) (by omega) (fun h13 => False.elim (by omega)) (fun h13 => ?_)
      refine lv_iconst (v := (iI (-1))) hx hb dX7_go_17 (by decide) ?_
      exact x_iret hx hb hr hlocks dX7_go_18 rfl (post := fun (r : Int32) (_ : Unit) => r = (iI (-1))) (w1 := fun (_ : Unit) => [(rr, eMod ad len kp uo tm em pc0)]) () rfl hK hP hD hS
  · refine x_if_eq (tgt := 17) hx hb dX7_go_7 (by decide) (by omega) (fun h14 => ?_) (fun h14 => False.elim (by omega))
    refine lv_iconst (v := (iI (-1))) hx hb dX7_go_17 (by decide) ?_
    exact x_iret hx hb hr hlocks dX7_go_18 rfl (post := fun (r : Int32) (_ : Unit) => r = (iI (-1))) (w1 := fun (_ : Unit) => [(rr, eMod ad len kp uo tm em pc0)]) () rfl hK hP hD hS

set_option maxRecDepth 100000 in
set_option maxHeartbeats 4000000 in
theorem c_X7_say_bad (l : Launch) (D : va_G) (cI cC : ClassId) (rr : Nat) (ad : Nat → Nat) (len : Nat) (kp : Nat) (uo : Nat) (tm : Nat) (em : Nat) (pc0 : Nat) (z : Int) (z2 : Int) (z3 : Int) (hz : -2147483648 ≤ z ∧ z < 2147483648) (hz2 : -2147483648 ≤ z2 ∧ z2 < 2147483648) (hz3 : -2147483648 ≤ z3 ∧ z3 < 2147483648) (hbad : (z < 0 ∨ 30 < z) ∨ (z2 < 1 ∨ 7 < z2) ∨ (z3 < 1 ∨ 60 < z3)) : mtI l D cI cC yX7_say wsX7_say ({ frames := 2, cells := 0, slots := 0, locals := 47 }) [.ref rr, .int (iI z), .int (iI z2), .int (iI z3)] [(rr, eMod ad len kp uo tm em pc0)] (fun (r : Int32) (_ : Unit) => r = (iI (-1))) (fun (_ : Unit) => [(rr, eMod ad len kp uo tm em pc0)]) := by
  refine mtI_of (cc := cX7_say) (maxL := 4) (ret := (some .int)) (by decide) rfl rfl ?_
  intro p e s m below meth c A hx hb hml hr hts hown hlocks hN hA hK hP hD hS ls hl
  have hown : s.vm.findClass RX7 = some m.cls := hown
  have hl : lv_has ls 4 [(0, .ref rr), (1, .int (iI z)), (2, .int (iI z2)), (3, .int (iI z3))] := hl
  obtain ⟨H, hHe⟩ : ∃ H, H = s.heap := ⟨_, rfl⟩
  rw [← hHe] at hP ⊢
  have hS : va_S A s.heap H [] := by rw [hHe]; exact va_S.rf
  refine lv_iload_n hx hb dX7_say_0 rfl (lv_at hl 1 rfl) ?_
  refine lv_iload_n hx hb dX7_say_1 rfl (lv_at hl 2 rfl) ?_
  refine lv_iload_n hx hb dX7_say_2 rfl (lv_at hl 3 rfl) ?_
  refine k_S (As := [.int (iI z), .int (iI z2), .int (iI z3)]) (wr := [(rr, eMod ad len kp uo tm em pc0)]) ⟨hx, hb, hml, hown, hts⟩ (c_X7_isWord l D cI cC z z2 z3 (by omega) (by omega) (by omega)) (cwS 3 hts gX7_say_X7_isWord rfl rfl rfl (by decide +kernel) ⟨Nat.le_of_ble_eq_true rfl, Nat.le_of_ble_eq_true rfl⟩) rfl hl.1 rfl (Nat.le_of_ble_eq_true rfl) dX7_say_3 ⟨Nat.zero_le _, Nat.zero_le _⟩ hN hK hP hD hS hA [] [0] rfl rfl ⟨rfl, rfl, by decide⟩ (fun r1 u H locs w2 hP hD hS => ?_)
  obtain ⟨rfl, h3, h4, h5, h6, h7, h8⟩ | ⟨rfl, h9⟩ : (r1 = (nI 1) ∧ 0 ≤ z ∧ z ≤ 30 ∧ 1 ≤ z2 ∧ z2 ≤ 7 ∧ 1 ≤ z3 ∧ z3 ≤ 60) ∨ (r1 = (nI 0) ∧ (z < 0 ∨ 30 < z ∨ z2 < 1 ∨ 7 < z2 ∨ z3 < 1 ∨ 60 < z3)) := w2
  · refine x_if_ne (tgt := 11) hx hb dX7_say_6 (by decide) (by omega) (fun h10 => ?_) (fun h10 => False.elim (by omega))
    exact False.elim (by omega)
  · refine x_if_ne (tgt := 11) hx hb dX7_say_6 (by decide) (by omega) (fun h11 => False.elim (by omega)) (fun h11 => ?_)
    refine lv_iconst (v := (iI (-1))) hx hb dX7_say_9 (by decide) ?_
    exact x_iret hx hb hr hlocks dX7_say_10 rfl (post := fun (r : Int32) (_ : Unit) => r = (iI (-1))) (w1 := fun (_ : Unit) => [(rr, eMod ad len kp uo tm em pc0)]) () rfl hK hP hD hS

set_option maxRecDepth 100000 in
set_option maxHeartbeats 4000000 in
theorem c_X7_say_cap (l : Launch) (D : va_G) (cI cC : ClassId) (rr : Nat) (ad : Nat → Nat) (len : Nat) (kp : Nat) (uo : Nat) (tm : Nat) (em : Nat) (pc0 : Nat) (wma : Nat → Nat) (x : Nat) (y : Nat) (z : Nat) (hxx : x ≤ 30 ∧ 1 ≤ y ∧ y ≤ 7 ∧ 1 ≤ z ∧ z ≤ 60 ∧ wma 0 = 8) : mtI l D cI cC yX7_say wsX7_say ({ frames := 2, cells := 0, slots := 0, locals := 47 }) [.ref rr, .int (nI x), .int (nI y), .int (nI z)] [(rr, eMod ad len kp uo tm em pc0), (ad 7, eArr cI 4 wma)] (fun (r : Int32) (_ : Unit) => r = (iI (-3))) (fun (_ : Unit) => [(rr, eMod ad len kp uo tm em pc0), (ad 7, eArr cI 4 wma)]) := by
  refine mtI_of (cc := cX7_say) (maxL := 4) (ret := (some .int)) (by decide) rfl rfl ?_
  intro p e s m below meth c A hx hb hml hr hts hown hlocks hN hA hK hP hD hS ls hl
  have hown : s.vm.findClass RX7 = some m.cls := hown
  have hl : lv_has ls 4 [(0, .ref rr), (1, .int (nI x)), (2, .int (nI y)), (3, .int (nI z))] := hl
  obtain ⟨H, hHe⟩ : ∃ H, H = s.heap := ⟨_, rfl⟩
  rw [← hHe] at hP ⊢
  have hS : va_S A s.heap H [] := by rw [hHe]; exact va_S.rf
  have fl28 := hts (.fieldLink RX7 28 "EchoPaysRentModel" "wordMany" "[I") (by decide +kernel)
  have inX7 : ∀ w ∈ wsX70, w ∈ wsX7_say := by decide +kernel
  refine lv_iload_n hx hb dX7_say_0 rfl (lv_at hl 1 rfl) ?_
  refine lv_iload_n hx hb dX7_say_1 rfl (lv_at hl 2 rfl) ?_
  refine lv_iload_n hx hb dX7_say_2 rfl (lv_at hl 3 rfl) ?_
  refine k_S (As := [.int (iI (((x : Nat) : Int))), .int (iI (((y : Nat) : Int))), .int (iI (((z : Nat) : Int)))]) (wr := [(rr, eMod ad len kp uo tm em pc0), (ad 7, eArr cI 4 wma)]) ⟨hx, hb, hml, hown, hts⟩ (c_X7_isWord l D cI cC (((x : Nat) : Int)) (((y : Nat) : Int)) (((z : Nat) : Int)) (by omega) (by omega) (by omega)) (cwS 3 hts gX7_say_X7_isWord rfl rfl rfl (by decide +kernel) ⟨Nat.le_of_ble_eq_true rfl, Nat.le_of_ble_eq_true rfl⟩) rfl hl.1 (by simp only [nI_iI]; rfl) (Nat.le_of_ble_eq_true rfl) dX7_say_3 ⟨Nat.zero_le _, Nat.zero_le _⟩ hN hK hP hD hS hA [] [0, 1] rfl rfl ⟨rfl, rfl, by decide⟩ (fun r1 u H locs w2 hP hD hS => ?_)
  obtain ⟨rfl, h3, h4, h5, h6, h7, h8⟩ | ⟨rfl, h9⟩ : (r1 = (nI 1) ∧ 0 ≤ (((x : Nat) : Int)) ∧ (((x : Nat) : Int)) ≤ 30 ∧ 1 ≤ (((y : Nat) : Int)) ∧ (((y : Nat) : Int)) ≤ 7 ∧ 1 ≤ (((z : Nat) : Int)) ∧ (((z : Nat) : Int)) ≤ 60) ∨ (r1 = (nI 0) ∧ ((((x : Nat) : Int)) < 0 ∨ 30 < (((x : Nat) : Int)) ∨ (((y : Nat) : Int)) < 1 ∨ 7 < (((y : Nat) : Int)) ∨ (((z : Nat) : Int)) < 1 ∨ 60 < (((z : Nat) : Int)))) := w2
  · refine x_if_ne (tgt := 11) hx hb dX7_say_6 (by decide) (by omega) (fun h10 => ?_) (fun h10 => False.elim (by omega))
    refine lv_aload_n hx hb dX7_say_11 rfl (lv_at hl 0 rfl) ?_
    refine va_get (D := D) (ci := 7) (v := .ref (ad 7)) (C := RX7) (T := TX7) (N := 28) hx hb hts inX7 hown hK hP 0 rfl rfl 7 (by decide) fl28 (fun _ h9 => h9) rfl dX7_say_12 ?_
    refine lv_iconst (v := (nI 0)) hx hb dX7_say_15 (by decide) ?_
    refine x_iald (A := A) hx hb hK hP 1 0 rfl rfl dX7_say_16 (by omega) (by omega) ?_
    refine lv_bipush (v := (nI 8)) hx hb dX7_say_17 (by decide) ?_
    refine x_icmp_ne (tgt := 25) hx hb dX7_say_19 (by decide) (by omega) (by omega) (fun h11 => False.elim (by omega)) (fun h11 => ?_)
    refine lv_bipush (v := (iI (-3))) hx hb dX7_say_22 (by decide) ?_
    exact x_iret hx hb hr hlocks dX7_say_24 rfl (post := fun (r : Int32) (_ : Unit) => r = (iI (-3))) (w1 := fun (_ : Unit) => [(rr, eMod ad len kp uo tm em pc0), (ad 7, eArr cI 4 wma)]) () rfl hK hP hD hS
  · exact False.elim (by omega)
