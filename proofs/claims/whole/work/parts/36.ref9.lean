theorem allB_iff {p : Nat → Bool} {n : Nat} : allB p n = true ↔ ∀ w, w < n → p w = true := by
  induction n with
  | zero => exact ⟨fun _ w h => absurd h (Nat.not_lt_zero w), fun _ => rfl⟩
  | succ n ih =>
    show (allB p n && p n) = true ↔ _
    rw [Bool.and_eq_true, ih]
    constructor
    · intro h w hw
      by_cases e : w = n
      · rw [e]; exact h.2
      · exact h.1 w (by omega)
    · intro h
      exact ⟨fun w hw => h w (by omega), h n (by omega)⟩
theorem full_iff {c : Nat → Bool} {n : Nat} : bitsM c n = 2 ^ n - 1 ↔ ∀ w, w < n → c w = true := by
  induction n with
  | zero => exact ⟨fun _ w h => absurd h (Nat.not_lt_zero w), fun _ => rfl⟩
  | succ n ih =>
    have hlt := bitsM_lt c n
    have hp := Nat.two_pow_pos n
    show bitsM c n + (if c n then 2 ^ n else 0) = 2 ^ (n + 1) - 1 ↔ _
    rw [Nat.pow_succ]
    constructor
    · intro h w hw
      cases hc : c n with
      | false => rw [hc, if_neg (by decide)] at h; omega
      | true =>
        rw [hc, if_pos rfl] at h
        by_cases e : w = n
        · rw [e]; exact hc
        · exact ih.mp (by omega) w (by omega)
    · intro h
      rw [h n (by omega), if_pos rfl, ih.mpr (fun w hw => h w (by omega))]
      omega
theorem both_all {S : Snd} {wd : Nat → Nat} {nw d y1 z1 y2 z2 : Nat} (hn : nw ≤ 8) : both2 S wd nw d y1 z1 y2 z2 = allB (fun w => hitM S wd w 0 y1 z1 && hitM S wd w d y2 z2) nw := by
  have e : both2 S wd nw d y1 z1 y2 z2 = true ↔ allB (fun w => hitM S wd w 0 y1 z1 && hitM S wd w d y2 z2) nw = true := by
    unfold both2 plSet
    rw [Bool.and_eq_true, decide_eq_true_iff, decide_eq_true_iff, full_iff, full_iff, allB_iff]
    constructor
    · intro h w hw
      have h1 := h.1 w hw
      have h2 := h.2 w hw
      rw [onS_all hn hw, Bool.true_and] at h1 h2
      rw [h1, h2]; rfl
    · intro h
      refine ⟨fun w hw => ?_, fun w hw => ?_⟩
      · have h1 := h w hw
        rw [Bool.and_eq_true] at h1
        rw [onS_all hn hw, h1.1]; rfl
      · have h1 := h w hw
        rw [Bool.and_eq_true] at h1
        rw [onS_all hn hw, h1.2]; rfl
  cases h1 : both2 S wd nw d y1 z1 y2 z2 with
  | true => exact (e.mp h1).symm
  | false =>
    cases h2 : allB (fun w => hitM S wd w 0 y1 z1 && hitM S wd w d y2 z2) nw with
    | false => rfl
    | true => rw [e.mpr h2] at h1; exact absurd h1 (by decide)

set_option maxRecDepth 100000 in
set_option maxHeartbeats 4000000 in
theorem c_X7_second_bad (l : Launch) (D : va_G) (cI cC : ClassId) (rr : Nat) (ad : Nat → Nat) (len : Nat) (kp : Nat) (uo : Nat) (tm : Nat) (em : Nat) (pc0 : Nat) (z : Int) (hz : -2147483648 ≤ z ∧ z < 2147483648) (hbad : (z < 0 ∨ 40 < z)) : mtI l D cI cC yX7_second wsX7_second ({ frames := 2, cells := 0, slots := 0, locals := 45 }) [.ref rr, .int (iI z)] [(rr, eMod ad len kp uo tm em pc0)] (fun (r : Int32) (_ : Unit) => r = (iI (-1))) (fun (_ : Unit) => [(rr, eMod ad len kp uo tm em pc0)]) := by
  refine mtI_of (cc := cX7_second) (maxL := 5) (ret := (some .int)) (by decide) rfl rfl ?_
  intro p e s m below meth c A hx hb hml hr hts hown hlocks hN hA hK hP hD hS ls hl
  have hown : s.vm.findClass RX7 = some m.cls := hown
  have hl : lv_has ls 5 [(0, .ref rr), (1, .int (iI z))] := hl
  obtain ⟨H, hHe⟩ : ∃ H, H = s.heap := ⟨_, rfl⟩
  rw [← hHe] at hP ⊢
  have hS : va_S A s.heap H [] := by rw [hHe]; exact va_S.rf
  refine lv_iload_n hx hb dX7_second_0 rfl (lv_at hl 1 rfl) ?_
  refine k_S (As := [.int (iI z)]) (wr := [(rr, eMod ad len kp uo tm em pc0)]) ⟨hx, hb, hml, hown, hts⟩ (c_X7_isYard l D cI cC z (by omega)) (cwS 1 hts gX7_second_X7_isYard rfl rfl rfl (by decide +kernel) ⟨Nat.le_of_ble_eq_true rfl, Nat.le_of_ble_eq_true rfl⟩) rfl hl.1 rfl (Nat.le_of_ble_eq_true rfl) dX7_second_1 ⟨Nat.zero_le _, Nat.zero_le _⟩ hN hK hP hD hS hA [] [0] rfl rfl ⟨rfl, rfl, by decide⟩ (fun r1 u H locs w2 hP hD hS => ?_)
  obtain ⟨rfl, h3, h4⟩ | ⟨rfl, h5⟩ : (r1 = (nI 1) ∧ 0 ≤ z ∧ z ≤ 40) ∨ (r1 = (nI 0) ∧ (z < 0 ∨ 40 < z)) := w2
  · refine x_if_ne (tgt := 9) hx hb dX7_second_4 (by decide) (by omega) (fun h6 => ?_) (fun h6 => False.elim (by omega))
    exact False.elim (by omega)
  · refine x_if_ne (tgt := 9) hx hb dX7_second_4 (by decide) (by omega) (fun h7 => False.elim (by omega)) (fun h7 => ?_)
    refine lv_iconst (v := (iI (-1))) hx hb dX7_second_7 (by decide) ?_
    exact x_iret hx hb hr hlocks dX7_second_8 rfl (post := fun (r : Int32) (_ : Unit) => r = (iI (-1))) (w1 := fun (_ : Unit) => [(rr, eMod ad len kp uo tm em pc0)]) () rfl hK hP hD hS

set_option maxRecDepth 100000 in
set_option maxHeartbeats 4000000 in
theorem c_X7_second_some (l : Launch) (D : va_G) (cI cC : ClassId) (rr : Nat) (ad : Nat → Nat) (len : Nat) (kp : Nat) (uo : Nat) (tm : Nat) (em : Nat) (pc0 : Nat) (fm : Nat → Nat) (pq : Nat → Nat) (dq : Nat → Nat) (kq : Nat → Nat) (ai : Nat → Nat) (sna : Nat → Nat) (wma : Nat → Nat) (be : Nat → Nat) (va : Nat → Nat) (lo : Nat → Nat) (spa : Nat → Nat) (hea : Nat → Nat) (lg : Nat → Nat) (vg : Nat → Nat) (cl : Nat → Nat) (hrc : relC pq dq kq cl (fm 0)) (hok : okC cl (fm 0)) (hfm : fm 0 ≤ 4 ∧ ai 0 ≤ 99 ∧ sna 0 < 2147483648) (wd : Nat → Nat) (hrd : relD be va lo wd (wma 0)) (hokd : okD wd (wma 0)) (hnw : wma 0 ≤ 8) (hsp : spa 0 ≤ 40 ∧ hea 0 ≤ 40) (x : Nat) (hx4 : x ≤ 40) (d0 : Nat) (hd60 : d0 ≤ 60) (ht : secB cl (fm 0) (ai 0) (sna 0) wd (wma 0) (spa 0) (hea 0) x d0 = true) (hf : ∀ d, d < d0 → secB cl (fm 0) (ai 0) (sna 0) wd (wma 0) (spa 0) (hea 0) x  d = false) : mtI l D cI cC yX7_second wsX7_second ({ frames := 4, cells := 0, slots := 0, locals := 98 }) [.ref rr, .int (nI x)] [(rr, eMod ad len kp uo tm em pc0), (ad 2, eArr cI 2 fm), (ad 3, eArr cI 8 pq), (ad 4, eArr cI 8 dq), (ad 5, eArr cI 8 kq), (ad 6, eArr cI 2 ai), (ad 13, eArr cI 4 sna), (ad 7, eArr cI 4 wma), (ad 8, eArr cI 32 be), (ad 9, eArr cI 32 va), (ad 10, eArr cI 32 lo), (ad 11, eArr cI 4 spa), (ad 12, eArr cI 4 hea), (ad 20, eArr cI 150 lg), (ad 21, eArr cI 150 vg)] (fun (r : Int32) ((lg', vg') : (Nat → Nat) × (Nat → Nat)) => r = (nI d0)) (fun ((lg', vg') : (Nat → Nat) × (Nat → Nat)) => [(rr, eMod ad len kp uo tm em pc0), (ad 2, eArr cI 2 fm), (ad 3, eArr cI 8 pq), (ad 4, eArr cI 8 dq), (ad 5, eArr cI 8 kq), (ad 6, eArr cI 2 ai), (ad 13, eArr cI 4 sna), (ad 7, eArr cI 4 wma), (ad 8, eArr cI 32 be), (ad 9, eArr cI 32 va), (ad 10, eArr cI 32 lo), (ad 11, eArr cI 4 spa), (ad 12, eArr cI 4 hea), (ad 20, eArr cI 150 lg'), (ad 21, eArr cI 150 vg')]) := by
  refine mtI_of (cc := cX7_second) (maxL := 5) (ret := (some .int)) (by decide) rfl rfl ?_
  intro p e s m below meth c A hx hb hml hr hts hown hlocks hN hA hK hP hD hS ls hl
  have hown : s.vm.findClass RX7 = some m.cls := hown
  have hl : lv_has ls 5 [(0, .ref rr), (1, .int (nI x))] := hl
  obtain ⟨H, hHe⟩ : ∃ H, H = s.heap := ⟨_, rfl⟩
  rw [← hHe] at hP ⊢
  have hS : va_S A s.heap H [] := by rw [hHe]; exact va_S.rf
  have fl40 := hts (.fieldLink RX7 40 "EchoPaysRentModel" "speaker" "[I") (by decide +kernel)
  have inX7 : ∀ w ∈ wsX70, w ∈ wsX7_second := by decide +kernel
  have fl43 := hts (.fieldLink RX7 43 "EchoPaysRentModel" "hearer" "[I") (by decide +kernel)
  have fl28 := hts (.fieldLink RX7 28 "EchoPaysRentModel" "wordMany" "[I") (by decide +kernel)
  have fl31 := hts (.fieldLink RX7 31 "EchoPaysRentModel" "beats" "[I") (by decide +kernel)
  have fl34 := hts (.fieldLink RX7 34 "EchoPaysRentModel" "values" "[I") (by decide +kernel)
  have fl37 := hts (.fieldLink RX7 37 "EchoPaysRentModel" "louds" "[I") (by decide +kernel)
  refine lv_iload_n hx hb dX7_second_0 rfl (lv_at hl 1 rfl) ?_
  refine k_S (As := [.int (iI (((x : Nat) : Int)))]) (wr := [(rr, eMod ad len kp uo tm em pc0), (ad 2, eArr cI 2 fm), (ad 3, eArr cI 8 pq), (ad 4, eArr cI 8 dq), (ad 5, eArr cI 8 kq), (ad 6, eArr cI 2 ai), (ad 13, eArr cI 4 sna), (ad 7, eArr cI 4 wma), (ad 8, eArr cI 32 be), (ad 9, eArr cI 32 va), (ad 10, eArr cI 32 lo), (ad 11, eArr cI 4 spa), (ad 12, eArr cI 4 hea), (ad 20, eArr cI 150 lg), (ad 21, eArr cI 150 vg)]) ⟨hx, hb, hml, hown, hts⟩ (c_X7_isYard l D cI cC (((x : Nat) : Int)) (by omega)) (cwS 1 hts gX7_second_X7_isYard rfl rfl rfl (by decide +kernel) ⟨Nat.le_of_ble_eq_true rfl, Nat.le_of_ble_eq_true rfl⟩) rfl hl.1 (by simp only [nI_iI]; rfl) (Nat.le_of_ble_eq_true rfl) dX7_second_1 ⟨Nat.zero_le _, Nat.zero_le _⟩ hN hK hP hD hS hA [] [0, 1, 2, 3, 4, 5, 6, 7, 8, 9, 10, 11, 12, 13, 14] rfl rfl ⟨rfl, rfl, by decide⟩ (fun r1 u H locs w2 hP hD hS => ?_)
  obtain ⟨rfl, h3, h4⟩ | ⟨rfl, h5⟩ : (r1 = (nI 1) ∧ 0 ≤ (((x : Nat) : Int)) ∧ (((x : Nat) : Int)) ≤ 40) ∨ (r1 = (nI 0) ∧ ((((x : Nat) : Int)) < 0 ∨ 40 < (((x : Nat) : Int)))) := w2
  · refine x_if_ne (tgt := 9) hx hb dX7_second_4 (by decide) (by omega) (fun h6 => ?_) (fun h6 => False.elim (by omega))
    refine lv_iconst (v := (nI 0)) hx hb dX7_second_9 (by decide) ?_
    refine lv_istore_n (lv' := [(2, .int (nI 0)), (0, .ref rr), (1, .int (nI x))]) hx hb dX7_second_10 rfl hl (by decide) rfl (fun ls hl => ?_)
    have loop11 : ∀ (nn11 : Nat) (d : Nat) (lg' : Nat → Nat) (vg' : Nat → Nat), 61 - d < nn11 → (d ≤ d0) → ∀ (H : Heap) (locs : List Loc), va_P D vwCl [(rr, eMod ad len kp uo tm em pc0), (ad 2, eArr cI 2 fm), (ad 3, eArr cI 8 pq), (ad 4, eArr cI 8 dq), (ad 5, eArr cI 8 kq), (ad 6, eArr cI 2 ai), (ad 13, eArr cI 4 sna), (ad 7, eArr cI 4 wma), (ad 8, eArr cI 32 be), (ad 9, eArr cI 32 va), (ad 10, eArr cI 32 lo), (ad 11, eArr cI 4 spa), (ad 12, eArr cI 4 hea), (ad 20, eArr cI 150 lg'), (ad 21, eArr cI 150 vg')] H → va_D A [(rr, eMod ad len kp uo tm em pc0), (ad 2, eArr cI 2 fm), (ad 3, eArr cI 8 pq), (ad 4, eArr cI 8 dq), (ad 5, eArr cI 8 kq), (ad 6, eArr cI 2 ai), (ad 13, eArr cI 4 sna), (ad 7, eArr cI 4 wma), (ad 8, eArr cI 32 be), (ad 9, eArr cI 32 va), (ad 10, eArr cI 32 lo), (ad 11, eArr cI 4 spa), (ad 12, eArr cI 4 hea), (ad 20, eArr cI 150 lg'), (ad 21, eArr cI 150 vg')] → va_S A s.heap H locs → ∀ ls : Array Slot, lv_has ls 5 [(2, .int (nI d)), (0, .ref rr), (1, .int (nI x))] → W p l e (headSpec wsX7_second ({ frames := 4, cells := 0, slots := 0, locals := 98 })).room s m ([.ref rr, .int (nI x)] : List Value).toArray below meth c H locs 0 0 (MQ below (va_Qi (fun (r : Int32) ((lg', vg') : (Nat → Nat) × (Nat → Nat)) => r = (nI d0)) (ctB D cI cC (fun ((lg', vg') : (Nat → Nat) × (Nat → Nat)) => [(rr, eMod ad len kp uo tm em pc0), (ad 2, eArr cI 2 fm), (ad 3, eArr cI 8 pq), (ad 4, eArr cI 8 dq), (ad 5, eArr cI 8 kq), (ad 6, eArr cI 2 ai), (ad 13, eArr cI 4 sna), (ad 7, eArr cI 4 wma), (ad 8, eArr cI 32 be), (ad 9, eArr cI 32 va), (ad 10, eArr cI 32 lo), (ad 11, eArr cI 4 spa), (ad 12, eArr cI 4 hea), (ad 20, eArr cI 150 lg'), (ad 21, eArr cI 150 vg')]) A) A) ([.ref rr, .int (nI x)] : List Value).toArray s 0 0 A) (F0 m 11 ls []) := by
      intro nn11
      induction nn11 with
      | zero =>
        intro d lg' vg' hm7
        exact absurd hm7 (Nat.not_lt_zero _)
      | succ nn11 ih11 =>
        intro d lg' vg' hm7 hi8 H locs hP hD hS ls hl
        refine lv_iload_n hx hb dX7_second_11 rfl (lv_at hl 0 rfl) ?_
        refine lv_bipush (v := (nI 60)) hx hb dX7_second_12 (by decide) ?_
        refine x_icmp_gt (tgt := 166) hx hb dX7_second_14 (by decide) (by omega) (by omega) (fun h9 => False.elim (by omega)) (fun h9 => ?_)
        refine lv_aload_n hx hb dX7_second_17 rfl (lv_at hl 1 rfl) ?_
        refine lv_aload_n hx hb dX7_second_18 rfl (lv_at hl 1 rfl) ?_
        refine va_get (D := D) (ci := 7) (v := .ref (ad 11)) (C := RX7) (T := TX7) (N := 28) hx hb hts inX7 hown hK hP 0 rfl rfl 11 (by decide) fl40 (fun _ h9 => h9) rfl dX7_second_19 ?_
        refine lv_iconst (v := (nI 0)) hx hb dX7_second_22 (by decide) ?_
        refine x_iald (A := A) hx hb hK hP 11 0 rfl rfl dX7_second_23 (by omega) (by omega) ?_
        refine lv_aload_n hx hb dX7_second_24 rfl (lv_at hl 1 rfl) ?_
        refine va_get (D := D) (ci := 7) (v := .ref (ad 12)) (C := RX7) (T := TX7) (N := 28) hx hb hts inX7 hown hK hP 0 rfl rfl 12 (by decide) fl43 (fun _ h9 => h9) rfl dX7_second_25 ?_
        refine lv_iconst (v := (nI 0)) hx hb dX7_second_28 (by decide) ?_
        refine x_iald (A := A) hx hb hK hP 12 0 rfl rfl dX7_second_29 (by omega) (by omega) ?_
        refine lv_iconst (v := (nI 0)) hx hb dX7_second_30 (by decide) ?_
        refine k_Vv (q := (RX7, TX7, 28)) (ci := 7) (As := [.int (nI (spa 0)), .int (nI (hea 0)), .int (nI 0)]) (wr := [(ad 11, eArr cI 4 spa), (ad 12, eArr cI 4 hea)]) ⟨hx, hb, hml, hown, hts⟩ (c_X7_sayAll l D cI cC rr ad len kp uo tm em pc0 fm pq dq kq ai sna wma be va lo cl hrc hok (by omega) wd hrd hokd (by omega) (spa 0) (hea 0) (by omega) 0 (Nat.two_pow_pos _) lg' vg') (cwV 3 hts gX7_second_X7_sayAll rfl rfl rfl (by decide +kernel) ⟨Nat.le_of_ble_eq_true rfl, Nat.le_of_ble_eq_true rfl⟩) rfl hl.1 rfl (Nat.le_of_ble_eq_true rfl) dX7_second_31 ⟨Nat.zero_le _, Nat.zero_le _⟩ hN hK hP hD hS hA rfl (q0 := 0) rfl [0, 1, 2, 3, 4, 5, 6, 7, 8, 9, 10, 13, 14] [11, 12] rfl rfl ⟨rfl, rfl, by decide⟩ (fun u H locs w11 hP hD hS => ?_)
        refine lv_iconst (v := (nI 0)) hx hb dX7_second_34 (by decide) ?_
        refine lv_istore_n (lv' := [(3, .int (nI 0)), (2, .int (nI d)), (0, .ref rr), (1, .int (nI x))]) hx hb dX7_second_35 rfl hl (by decide) rfl (fun ls hl => ?_)
        have loop36 : ∀ (nn36 : Nat) (w : Nat), wma 0 - w < nn36 → (w ≤ wma 0) → ∀ (H : Heap) (locs : List Loc), va_P D vwCl [(rr, eMod ad len kp uo tm em pc0), (ad 2, eArr cI 2 fm), (ad 3, eArr cI 8 pq), (ad 4, eArr cI 8 dq), (ad 5, eArr cI 8 kq), (ad 6, eArr cI 2 ai), (ad 13, eArr cI 4 sna), (ad 7, eArr cI 4 wma), (ad 8, eArr cI 32 be), (ad 9, eArr cI 32 va), (ad 10, eArr cI 32 lo), (ad 11, eArr cI 4 spa), (ad 12, eArr cI 4 hea), (ad 20, eArr cI 150 ((playM (hearM cl (fm 0) (ai 0) (sna 0) wd (wma 0) (spa 0) (hea 0) (2 ^ (wma 0) - 1)) (fun _ => true) wd (waysM cl (ai 0) (sna 0) x (hea 0) (fm 0)) d w).1)), (ad 21, eArr cI 150 ((playM (hearM cl (fm 0) (ai 0) (sna 0) wd (wma 0) (spa 0) (hea 0) (2 ^ (wma 0) - 1)) (fun _ => true) wd (waysM cl (ai 0) (sna 0) x (hea 0) (fm 0)) d w).2))] H → va_D A [(rr, eMod ad len kp uo tm em pc0), (ad 2, eArr cI 2 fm), (ad 3, eArr cI 8 pq), (ad 4, eArr cI 8 dq), (ad 5, eArr cI 8 kq), (ad 6, eArr cI 2 ai), (ad 13, eArr cI 4 sna), (ad 7, eArr cI 4 wma), (ad 8, eArr cI 32 be), (ad 9, eArr cI 32 va), (ad 10, eArr cI 32 lo), (ad 11, eArr cI 4 spa), (ad 12, eArr cI 4 hea), (ad 20, eArr cI 150 ((playM (hearM cl (fm 0) (ai 0) (sna 0) wd (wma 0) (spa 0) (hea 0) (2 ^ (wma 0) - 1)) (fun _ => true) wd (waysM cl (ai 0) (sna 0) x (hea 0) (fm 0)) d w).1)), (ad 21, eArr cI 150 ((playM (hearM cl (fm 0) (ai 0) (sna 0) wd (wma 0) (spa 0) (hea 0) (2 ^ (wma 0) - 1)) (fun _ => true) wd (waysM cl (ai 0) (sna 0) x (hea 0) (fm 0)) d w).2))] → va_S A s.heap H locs → ∀ ls : Array Slot, lv_has ls 5 [(3, .int (nI w)), (2, .int (nI d)), (0, .ref rr), (1, .int (nI x))] → W p l e (headSpec wsX7_second ({ frames := 4, cells := 0, slots := 0, locals := 98 })).room s m ([.ref rr, .int (nI x)] : List Value).toArray below meth c H locs 0 0 (MQ below (va_Qi (fun (r : Int32) ((lg', vg') : (Nat → Nat) × (Nat → Nat)) => r = (nI d0)) (ctB D cI cC (fun ((lg', vg') : (Nat → Nat) × (Nat → Nat)) => [(rr, eMod ad len kp uo tm em pc0), (ad 2, eArr cI 2 fm), (ad 3, eArr cI 8 pq), (ad 4, eArr cI 8 dq), (ad 5, eArr cI 8 kq), (ad 6, eArr cI 2 ai), (ad 13, eArr cI 4 sna), (ad 7, eArr cI 4 wma), (ad 8, eArr cI 32 be), (ad 9, eArr cI 32 va), (ad 10, eArr cI 32 lo), (ad 11, eArr cI 4 spa), (ad 12, eArr cI 4 hea), (ad 20, eArr cI 150 lg'), (ad 21, eArr cI 150 vg')]) A) A) ([.ref rr, .int (nI x)] : List Value).toArray s 0 0 A) (F0 m 36 ls []) := by
          intro nn36
          induction nn36 with
          | zero =>
            intro w hm12
            exact absurd hm12 (Nat.not_lt_zero _)
          | succ nn36 ih36 =>
            intro w hm12 hi13 H locs hP hD hS ls hl
            refine lv_iload_n hx hb dX7_second_36 rfl (lv_at hl 0 rfl) ?_
            refine lv_aload_n hx hb dX7_second_37 rfl (lv_at hl 2 rfl) ?_
            refine va_get (D := D) (ci := 7) (v := .ref (ad 7)) (C := RX7) (T := TX7) (N := 28) hx hb hts inX7 hown hK hP 0 rfl rfl 7 (by decide) fl28 (fun _ h9 => h9) rfl dX7_second_38 ?_
            refine lv_iconst (v := (nI 0)) hx hb dX7_second_41 (by decide) ?_
            refine x_iald (A := A) hx hb hK hP 7 0 rfl rfl dX7_second_42 (by omega) (by omega) ?_
            refine x_icmp_ge (tgt := 83) hx hb dX7_second_43 (by decide) (by omega) (by omega) (fun h14 => ?_) (fun h14 => ?_)
            · have ew1 : w = wma 0 := by omega
              have hP : va_P D vwCl [(rr, eMod ad len kp uo tm em pc0), (ad 2, eArr cI 2 fm), (ad 3, eArr cI 8 pq), (ad 4, eArr cI 8 dq), (ad 5, eArr cI 8 kq), (ad 6, eArr cI 2 ai), (ad 13, eArr cI 4 sna), (ad 7, eArr cI 4 wma), (ad 8, eArr cI 32 be), (ad 9, eArr cI 32 va), (ad 10, eArr cI 32 lo), (ad 11, eArr cI 4 spa), (ad 12, eArr cI 4 hea), (ad 20, eArr cI 150 ((playM (hearM cl (fm 0) (ai 0) (sna 0) wd (wma 0) (spa 0) (hea 0) (2 ^ (wma 0) - 1)) (onS (2 ^ (wma 0) - 1)) wd (waysM cl (ai 0) (sna 0) x (hea 0) (fm 0)) d (wma 0)).1)), (ad 21, eArr cI 150 ((playM (hearM cl (fm 0) (ai 0) (sna 0) wd (wma 0) (spa 0) (hea 0) (2 ^ (wma 0) - 1)) (onS (2 ^ (wma 0) - 1)) wd (waysM cl (ai 0) (sna 0) x (hea 0) (fm 0)) d (wma 0)).2))] H := by rw [show playM (hearM cl (fm 0) (ai 0) (sna 0) wd (wma 0) (spa 0) (hea 0) (2 ^ (wma 0) - 1)) (onS (2 ^ (wma 0) - 1)) wd (waysM cl (ai 0) (sna 0) x (hea 0) (fm 0)) d (wma 0) = playM (hearM cl (fm 0) (ai 0) (sna 0) wd (wma 0) (spa 0) (hea 0) (2 ^ (wma 0) - 1)) (fun _ => true) wd (waysM cl (ai 0) (sna 0) x (hea 0) (fm 0)) d w from by rw [ew1]; exact (playM_on (fun w hw => (onS_all hnw hw).symm) _ wd _ d (wma 0) (Nat.le_refl _)).symm]; exact hP
              have hD : va_D A [(rr, eMod ad len kp uo tm em pc0), (ad 2, eArr cI 2 fm), (ad 3, eArr cI 8 pq), (ad 4, eArr cI 8 dq), (ad 5, eArr cI 8 kq), (ad 6, eArr cI 2 ai), (ad 13, eArr cI 4 sna), (ad 7, eArr cI 4 wma), (ad 8, eArr cI 32 be), (ad 9, eArr cI 32 va), (ad 10, eArr cI 32 lo), (ad 11, eArr cI 4 spa), (ad 12, eArr cI 4 hea), (ad 20, eArr cI 150 ((playM (hearM cl (fm 0) (ai 0) (sna 0) wd (wma 0) (spa 0) (hea 0) (2 ^ (wma 0) - 1)) (onS (2 ^ (wma 0) - 1)) wd (waysM cl (ai 0) (sna 0) x (hea 0) (fm 0)) d (wma 0)).1)), (ad 21, eArr cI 150 ((playM (hearM cl (fm 0) (ai 0) (sna 0) wd (wma 0) (spa 0) (hea 0) (2 ^ (wma 0) - 1)) (onS (2 ^ (wma 0) - 1)) wd (waysM cl (ai 0) (sna 0) x (hea 0) (fm 0)) d (wma 0)).2))] := by rw [show playM (hearM cl (fm 0) (ai 0) (sna 0) wd (wma 0) (spa 0) (hea 0) (2 ^ (wma 0) - 1)) (onS (2 ^ (wma 0) - 1)) wd (waysM cl (ai 0) (sna 0) x (hea 0) (fm 0)) d (wma 0) = playM (hearM cl (fm 0) (ai 0) (sna 0) wd (wma 0) (spa 0) (hea 0) (2 ^ (wma 0) - 1)) (fun _ => true) wd (waysM cl (ai 0) (sna 0) x (hea 0) (fm 0)) d w from by rw [ew1]; exact (playM_on (fun w hw => (onS_all hnw hw).symm) _ wd _ d (wma 0) (Nat.le_refl _)).symm]; exact hD
              refine lv_iconst (v := (nI 1)) hx hb dX7_second_83 (by decide) ?_
              refine lv_istore_n (lv' := [(3, .int (nI 1)), (2, .int (nI d)), (0, .ref rr), (1, .int (nI x))]) hx hb dX7_second_84 rfl hl (by decide) rfl (fun ls hl => ?_)
              refine lv_iconst (v := (nI 0)) hx hb dX7_second_85 (by decide) ?_
              refine lv_istore (lv' := [(4, .int (nI 0)), (3, .int (nI 1)), (2, .int (nI d)), (0, .ref rr), (1, .int (nI x))]) hx hb dX7_second_86 hl (by decide) rfl (fun ls hl => ?_)
              have loop88 : ∀ (nn88 : Nat) (w2 : Nat) (al : Nat), wma 0 - w2 < nn88 → (w2 ≤ wma 0) → ((al = 1 ∧ allB (fun w => hitM (playM (hearM cl (fm 0) (ai 0) (sna 0) wd (wma 0) (spa 0) (hea 0) (2 ^ (wma 0) - 1)) (onS (2 ^ (wma 0) - 1)) wd (waysM cl (ai 0) (sna 0) x (hea 0) (fm 0)) d (wma 0)) wd w 0 (absd (spa 0) (hea 0)) (ai 0 * absd (spa 0) (hea 0)) && hitM (playM (hearM cl (fm 0) (ai 0) (sna 0) wd (wma 0) (spa 0) (hea 0) (2 ^ (wma 0) - 1)) (onS (2 ^ (wma 0) - 1)) wd (waysM cl (ai 0) (sna 0) x (hea 0) (fm 0)) d (wma 0)) wd w d (absd x (hea 0)) (ai 0 * absd x (hea 0))) w2 = true) ∨ (al = 0 ∧ allB (fun w => hitM (playM (hearM cl (fm 0) (ai 0) (sna 0) wd (wma 0) (spa 0) (hea 0) (2 ^ (wma 0) - 1)) (onS (2 ^ (wma 0) - 1)) wd (waysM cl (ai 0) (sna 0) x (hea 0) (fm 0)) d (wma 0)) wd w 0 (absd (spa 0) (hea 0)) (ai 0 * absd (spa 0) (hea 0)) && hitM (playM (hearM cl (fm 0) (ai 0) (sna 0) wd (wma 0) (spa 0) (hea 0) (2 ^ (wma 0) - 1)) (onS (2 ^ (wma 0) - 1)) wd (waysM cl (ai 0) (sna 0) x (hea 0) (fm 0)) d (wma 0)) wd w d (absd x (hea 0)) (ai 0 * absd x (hea 0))) w2 = false)) → (al ≤ 1) → ∀ (H : Heap) (locs : List Loc), va_P D vwCl [(rr, eMod ad len kp uo tm em pc0), (ad 2, eArr cI 2 fm), (ad 3, eArr cI 8 pq), (ad 4, eArr cI 8 dq), (ad 5, eArr cI 8 kq), (ad 6, eArr cI 2 ai), (ad 13, eArr cI 4 sna), (ad 7, eArr cI 4 wma), (ad 8, eArr cI 32 be), (ad 9, eArr cI 32 va), (ad 10, eArr cI 32 lo), (ad 11, eArr cI 4 spa), (ad 12, eArr cI 4 hea), (ad 20, eArr cI 150 ((playM (hearM cl (fm 0) (ai 0) (sna 0) wd (wma 0) (spa 0) (hea 0) (2 ^ (wma 0) - 1)) (onS (2 ^ (wma 0) - 1)) wd (waysM cl (ai 0) (sna 0) x (hea 0) (fm 0)) d (wma 0)).1)), (ad 21, eArr cI 150 ((playM (hearM cl (fm 0) (ai 0) (sna 0) wd (wma 0) (spa 0) (hea 0) (2 ^ (wma 0) - 1)) (onS (2 ^ (wma 0) - 1)) wd (waysM cl (ai 0) (sna 0) x (hea 0) (fm 0)) d (wma 0)).2))] H → va_D A [(rr, eMod ad len kp uo tm em pc0), (ad 2, eArr cI 2 fm), (ad 3, eArr cI 8 pq), (ad 4, eArr cI 8 dq), (ad 5, eArr cI 8 kq), (ad 6, eArr cI 2 ai), (ad 13, eArr cI 4 sna), (ad 7, eArr cI 4 wma), (ad 8, eArr cI 32 be), (ad 9, eArr cI 32 va), (ad 10, eArr cI 32 lo), (ad 11, eArr cI 4 spa), (ad 12, eArr cI 4 hea), (ad 20, eArr cI 150 ((playM (hearM cl (fm 0) (ai 0) (sna 0) wd (wma 0) (spa 0) (hea 0) (2 ^ (wma 0) - 1)) (onS (2 ^ (wma 0) - 1)) wd (waysM cl (ai 0) (sna 0) x (hea 0) (fm 0)) d (wma 0)).1)), (ad 21, eArr cI 150 ((playM (hearM cl (fm 0) (ai 0) (sna 0) wd (wma 0) (spa 0) (hea 0) (2 ^ (wma 0) - 1)) (onS (2 ^ (wma 0) - 1)) wd (waysM cl (ai 0) (sna 0) x (hea 0) (fm 0)) d (wma 0)).2))] → va_S A s.heap H locs → ∀ ls : Array Slot, lv_has ls 5 [(4, .int (nI w2)), (3, .int (nI al)), (2, .int (nI d)), (0, .ref rr), (1, .int (nI x))] → W p l e (headSpec wsX7_second ({ frames := 4, cells := 0, slots := 0, locals := 98 })).room s m ([.ref rr, .int (nI x)] : List Value).toArray below meth c H locs 0 0 (MQ below (va_Qi (fun (r : Int32) ((lg', vg') : (Nat → Nat) × (Nat → Nat)) => r = (nI d0)) (ctB D cI cC (fun ((lg', vg') : (Nat → Nat) × (Nat → Nat)) => [(rr, eMod ad len kp uo tm em pc0), (ad 2, eArr cI 2 fm), (ad 3, eArr cI 8 pq), (ad 4, eArr cI 8 dq), (ad 5, eArr cI 8 kq), (ad 6, eArr cI 2 ai), (ad 13, eArr cI 4 sna), (ad 7, eArr cI 4 wma), (ad 8, eArr cI 32 be), (ad 9, eArr cI 32 va), (ad 10, eArr cI 32 lo), (ad 11, eArr cI 4 spa), (ad 12, eArr cI 4 hea), (ad 20, eArr cI 150 lg'), (ad 21, eArr cI 150 vg')]) A) A) ([.ref rr, .int (nI x)] : List Value).toArray s 0 0 A) (F0 m 88 ls []) := by
                intro nn88
                induction nn88 with
                | zero =>
                  intro w2 al hm15
                  exact absurd hm15 (Nat.not_lt_zero _)
                | succ nn88 ih88 =>
                  intro w2 al hm15 hi16 hcase hi17 H locs hP hD hS ls hl
                  refine lv_iload hx hb dX7_second_88 (lv_at hl 0 rfl) ?_
                  refine lv_aload_n hx hb dX7_second_90 rfl (lv_at hl 3 rfl) ?_
                  refine va_get (D := D) (ci := 7) (v := .ref (ad 7)) (C := RX7) (T := TX7) (N := 28) hx hb hts inX7 hown hK hP 0 rfl rfl 7 (by decide) fl28 (fun _ h9 => h9) rfl dX7_second_91 ?_
                  refine lv_iconst (v := (nI 0)) hx hb dX7_second_94 (by decide) ?_
                  refine x_iald (A := A) hx hb hK hP 7 0 rfl rfl dX7_second_95 (by omega) (by omega) ?_
                  refine x_icmp_ge (tgt := 154) hx hb dX7_second_96 (by decide) (by omega) (by omega) (fun h18 => ?_) (fun h18 => ?_)
                  · have hsb : secB cl (fm 0) (ai 0) (sna 0) wd (wma 0) (spa 0) (hea 0) x  d = allB (fun w => hitM (playM (hearM cl (fm 0) (ai 0) (sna 0) wd (wma 0) (spa 0) (hea 0) (2 ^ (wma 0) - 1)) (onS (2 ^ (wma 0) - 1)) wd (waysM cl (ai 0) (sna 0) x (hea 0) (fm 0)) d (wma 0)) wd w 0 (absd (spa 0) (hea 0)) (ai 0 * absd (spa 0) (hea 0)) && hitM (playM (hearM cl (fm 0) (ai 0) (sna 0) wd (wma 0) (spa 0) (hea 0) (2 ^ (wma 0) - 1)) (onS (2 ^ (wma 0) - 1)) wd (waysM cl (ai 0) (sna 0) x (hea 0) (fm 0)) d (wma 0)) wd w d (absd x (hea 0)) (ai 0 * absd x (hea 0))) w2 := by rw [show w2 = wma 0 from by omega]; exact both_all hnw
                    rcases hcase with hc | hc
                    · rw [hc.1] at hl
                      have hsec : secB cl (fm 0) (ai 0) (sna 0) wd (wma 0) (spa 0) (hea 0) x  d = true := by rw [hsb]; exact hc.2
                      have hdd : d = d0 := by rcases Nat.lt_or_ge d d0 with h | h; exact absurd hsec (by rw [hf d h]; decide); omega
                      refine lv_iload_n hx hb dX7_second_154 rfl (lv_at hl 1 rfl) ?_
                      refine x_if_eq (tgt := 160) hx hb dX7_second_155 (by decide) (by omega) (fun h19 => False.elim (by omega)) (fun h19 => ?_)
                      refine lv_iload_n hx hb dX7_second_158 rfl (lv_at hl 2 rfl) ?_
                      exact x_iret hx hb hr hlocks dX7_second_159 rfl (post := fun (r : Int32) ((lg', vg') : (Nat → Nat) × (Nat → Nat)) => r = (nI d0)) (w1 := fun ((lg', vg') : (Nat → Nat) × (Nat → Nat)) => [(rr, eMod ad len kp uo tm em pc0), (ad 2, eArr cI 2 fm), (ad 3, eArr cI 8 pq), (ad 4, eArr cI 8 dq), (ad 5, eArr cI 8 kq), (ad 6, eArr cI 2 ai), (ad 13, eArr cI 4 sna), (ad 7, eArr cI 4 wma), (ad 8, eArr cI 32 be), (ad 9, eArr cI 32 va), (ad 10, eArr cI 32 lo), (ad 11, eArr cI 4 spa), (ad 12, eArr cI 4 hea), (ad 20, eArr cI 150 lg'), (ad 21, eArr cI 150 vg')]) ((playM (hearM cl (fm 0) (ai 0) (sna 0) wd (wma 0) (spa 0) (hea 0) (2 ^ (wma 0) - 1)) (onS (2 ^ (wma 0) - 1)) wd (waysM cl (ai 0) (sna 0) x (hea 0) (fm 0)) d (wma 0)).1, (playM (hearM cl (fm 0) (ai 0) (sna 0) wd (wma 0) (spa 0) (hea 0) (2 ^ (wma 0) - 1)) (onS (2 ^ (wma 0) - 1)) wd (waysM cl (ai 0) (sna 0) x (hea 0) (fm 0)) d (wma 0)).2) (congrArg nI hdd) hK hP hD hS
                    · rw [hc.1] at hl
                      have hsec : secB cl (fm 0) (ai 0) (sna 0) wd (wma 0) (spa 0) (hea 0) x  d = false := by rw [hsb]; exact hc.2
                      have hdd : d ≠ d0 := by intro e; rw [e, ht] at hsec; exact absurd hsec (by decide)
                      have hdd2 : d < d0 := by omega
                      refine lv_iload_n hx hb dX7_second_154 rfl (lv_at hl 1 rfl) ?_
                      refine x_if_eq (tgt := 160) hx hb dX7_second_155 (by decide) (by omega) (fun h20 => ?_) (fun h20 => False.elim (by omega))
                      refine lv_iinc (v := (nI (d + 1))) (lv' := [(2, .int (nI (d + 1))), (4, .int (nI w2)), (3, .int (nI 0)), (0, .ref rr), (1, .int (nI x))]) hx hb dX7_second_160 hl (k := 2) rfl (nI_inc _ 1) (by decide) rfl (fun ls hl => ?_)
                      refine lv_goto (tgt := 11) hx hb dX7_second_163 (by decide) ?_
                      exact ih11 (d + 1) ((playM (hearM cl (fm 0) (ai 0) (sna 0) wd (wma 0) (spa 0) (hea 0) (2 ^ (wma 0) - 1)) (onS (2 ^ (wma 0) - 1)) wd (waysM cl (ai 0) (sna 0) x (hea 0) (fm 0)) d (wma 0)).1) ((playM (hearM cl (fm 0) (ai 0) (sna 0) wd (wma 0) (spa 0) (hea 0) (2 ^ (wma 0) - 1)) (onS (2 ^ (wma 0) - 1)) wd (waysM cl (ai 0) (sna 0) x (hea 0) (fm 0)) d (wma 0)).2) (by omega) (by omega) _ _ (hP.sub [0, 1, 2, 3, 4, 5, 6, 7, 8, 9, 10, 11, 12, 13, 14] rfl) (hD.sub [0, 1, 2, 3, 4, 5, 6, 7, 8, 9, 10, 11, 12, 13, 14] rfl rfl) hS _ (lv_sub hl [0, 3, 4] rfl)
                  · refine lv_iload_n hx hb dX7_second_99 rfl (lv_at hl 1 rfl) ?_
                    refine x_if_eq (tgt := 146) hx hb dX7_second_100 (by decide) (by omega) (fun h21 => ?_) (fun h21 => ?_)
                    · refine lv_iconst (v := (nI 0)) hx hb dX7_second_146 (by decide) ?_
                      refine lv_istore_n (lv' := [(3, .int (nI 0)), (4, .int (nI w2)), (2, .int (nI d)), (0, .ref rr), (1, .int (nI x))]) hx hb dX7_second_147 rfl hl (by decide) rfl (fun ls hl => ?_)
                      refine lv_iinc (v := (nI (w2 + 1))) (lv' := [(4, .int (nI (w2 + 1))), (3, .int (nI 0)), (2, .int (nI d)), (0, .ref rr), (1, .int (nI x))]) hx hb dX7_second_148 hl (k := 1) rfl (nI_inc _ 1) (by decide) rfl (fun ls hl => ?_)
                      refine lv_goto (tgt := 88) hx hb dX7_second_151 (by decide) ?_
                      exact ih88 (w2 + 1) 0 (by omega) (by omega) (Or.inr ⟨rfl, (by rcases hcase with hc | hc; omega; show (_ && _) = false; rw [hc.2]; rfl)⟩) (by omega) _ _ (hP.sub [0, 1, 2, 3, 4, 5, 6, 7, 8, 9, 10, 11, 12, 13, 14] rfl) (hD.sub [0, 1, 2, 3, 4, 5, 6, 7, 8, 9, 10, 11, 12, 13, 14] rfl rfl) hS _ (lv_sub hl [0, 1, 2, 3, 4] rfl)
                    · refine lv_aload_n hx hb dX7_second_103 rfl (lv_at hl 3 rfl) ?_
                      refine lv_iload hx hb dX7_second_104 (lv_at hl 0 rfl) ?_
                      refine lv_aload_n hx hb dX7_second_106 rfl (lv_at hl 3 rfl) ?_
                      refine va_get (D := D) (ci := 7) (v := .ref (ad 11)) (C := RX7) (T := TX7) (N := 28) hx hb hts inX7 hown hK hP 0 rfl rfl 11 (by decide) fl40 (fun _ h9 => h9) rfl dX7_second_107 ?_
                      refine lv_iconst (v := (nI 0)) hx hb dX7_second_110 (by decide) ?_
                      refine x_iald (A := A) hx hb hK hP 11 0 rfl rfl dX7_second_111 (by omega) (by omega) ?_
                      refine lv_aload_n hx hb dX7_second_112 rfl (lv_at hl 3 rfl) ?_
                      refine va_get (D := D) (ci := 7) (v := .ref (ad 12)) (C := RX7) (T := TX7) (N := 28) hx hb hts inX7 hown hK hP 0 rfl rfl 12 (by decide) fl43 (fun _ h9 => h9) rfl dX7_second_113 ?_
                      refine lv_iconst (v := (nI 0)) hx hb dX7_second_116 (by decide) ?_
                      refine x_iald (A := A) hx hb hK hP 12 0 rfl rfl dX7_second_117 (by omega) (by omega) ?_
                      refine lv_iconst (v := (nI 0)) hx hb dX7_second_118 (by decide) ?_
                      refine k_V (q := (RX7, TX7, 28)) (ci := 7) (As := [.int (nI w2), .int (nI (spa 0)), .int (nI (hea 0)), .int (nI 0)]) (wr := [(ad 2, eArr cI 2 fm), (ad 3, eArr cI 8 pq), (ad 4, eArr cI 8 dq), (ad 5, eArr cI 8 kq), (ad 13, eArr cI 4 sna), (ad 7, eArr cI 4 wma), (ad 11, eArr cI 4 spa), (ad 12, eArr cI 4 hea), (ad 20, eArr cI 150 ((playM (hearM cl (fm 0) (ai 0) (sna 0) wd (wma 0) (spa 0) (hea 0) (2 ^ (wma 0) - 1)) (onS (2 ^ (wma 0) - 1)) wd (waysM cl (ai 0) (sna 0) x (hea 0) (fm 0)) d (wma 0)).1))]) ⟨hx, hb, hml, hown, hts⟩ (c_X7_isClear l D cI cC rr ad len kp uo tm em pc0 ai be va lo (playM (hearM cl (fm 0) (ai 0) (sna 0) wd (wma 0) (spa 0) (hea 0) (2 ^ (wma 0) - 1)) (onS (2 ^ (wma 0) - 1)) wd (waysM cl (ai 0) (sna 0) x (hea 0) (fm 0)) d (wma 0)) (wma 0) wd hrd hokd (by omega) hfm.2.1 w2 (spa 0) (hea 0) (by omega) 0 (by omega) (by omega) (okS_play (okS_play okS_quiet hokd _ (Nat.le_refl _)) hokd _ (Nat.le_refl _))) (cwV 4 hts gX7_second_X7_isClear rfl rfl rfl (by decide +kernel) ⟨Nat.le_of_ble_eq_true rfl, Nat.le_of_ble_eq_true rfl⟩) rfl hl.1 rfl (Nat.le_of_ble_eq_true rfl) dX7_second_119 ⟨Nat.zero_le _, Nat.zero_le _⟩ hN hK hP hD hS hA rfl (q0 := 0) rfl [0, 5, 8, 9, 10, 14] [1, 2, 3, 4, 6, 7, 11, 12, 13] rfl rfl ⟨rfl, rfl, by decide⟩ (fun r22 u H locs w23 hP hD hS => ?_)
                      obtain ⟨rfl, h24⟩ | ⟨rfl, h25⟩ : (r22 = (nI 1) ∧ hitM (playM (hearM cl (fm 0) (ai 0) (sna 0) wd (wma 0) (spa 0) (hea 0) (2 ^ (wma 0) - 1)) (onS (2 ^ (wma 0) - 1)) wd (waysM cl (ai 0) (sna 0) x (hea 0) (fm 0)) d (wma 0)) wd w2 0 (absd (spa 0) (hea 0)) (ai 0 * absd (spa 0) (hea 0)) = true) ∨ (r22 = (nI 0) ∧ hitM (playM (hearM cl (fm 0) (ai 0) (sna 0) wd (wma 0) (spa 0) (hea 0) (2 ^ (wma 0) - 1)) (onS (2 ^ (wma 0) - 1)) wd (waysM cl (ai 0) (sna 0) x (hea 0) (fm 0)) d (wma 0)) wd w2 0 (absd (spa 0) (hea 0)) (ai 0 * absd (spa 0) (hea 0)) = false) := w23
                      · refine x_if_eq (tgt := 146) hx hb dX7_second_122 (by decide) (by omega) (fun h26 => False.elim (by omega)) (fun h26 => ?_)
                        refine lv_aload_n hx hb dX7_second_125 rfl (lv_at hl 3 rfl) ?_
                        refine lv_iload hx hb dX7_second_126 (lv_at hl 0 rfl) ?_
                        refine lv_iload_n hx hb dX7_second_128 rfl (lv_at hl 4 rfl) ?_
                        refine lv_aload_n hx hb dX7_second_129 rfl (lv_at hl 3 rfl) ?_
                        refine va_get (D := D) (ci := 7) (v := .ref (ad 12)) (C := RX7) (T := TX7) (N := 28) hx hb hts inX7 hown hK hP 9 rfl rfl 12 (by decide) fl43 (fun _ h9 => h9) rfl dX7_second_130 ?_
                        refine lv_iconst (v := (nI 0)) hx hb dX7_second_133 (by decide) ?_
                        refine x_iald (A := A) hx hb hK hP 7 0 rfl rfl dX7_second_134 (by omega) (by omega) ?_
                        refine lv_iload_n hx hb dX7_second_135 rfl (lv_at hl 2 rfl) ?_
                        refine k_V (q := (RX7, TX7, 28)) (ci := 7) (As := [.int (nI w2), .int (nI x), .int (nI (hea 0)), .int (nI d)]) (wr := [(ad 2, eArr cI 2 fm), (ad 3, eArr cI 8 pq), (ad 4, eArr cI 8 dq), (ad 5, eArr cI 8 kq), (ad 13, eArr cI 4 sna), (ad 7, eArr cI 4 wma), (ad 11, eArr cI 4 spa), (ad 12, eArr cI 4 hea), (ad 20, eArr cI 150 ((playM (hearM cl (fm 0) (ai 0) (sna 0) wd (wma 0) (spa 0) (hea 0) (2 ^ (wma 0) - 1)) (onS (2 ^ (wma 0) - 1)) wd (waysM cl (ai 0) (sna 0) x (hea 0) (fm 0)) d (wma 0)).1))]) ⟨hx, hb, hml, hown, hts⟩ (c_X7_isClear l D cI cC rr ad len kp uo tm em pc0 ai be va lo (playM (hearM cl (fm 0) (ai 0) (sna 0) wd (wma 0) (spa 0) (hea 0) (2 ^ (wma 0) - 1)) (onS (2 ^ (wma 0) - 1)) wd (waysM cl (ai 0) (sna 0) x (hea 0) (fm 0)) d (wma 0)) (wma 0) wd hrd hokd (by omega) hfm.2.1 w2 x (hea 0) (by omega) d (by omega) (by omega) (okS_play (okS_play okS_quiet hokd _ (Nat.le_refl _)) hokd _ (Nat.le_refl _))) (cwV 4 hts gX7_second_X7_isClear rfl rfl rfl (by decide +kernel) ⟨Nat.le_of_ble_eq_true rfl, Nat.le_of_ble_eq_true rfl⟩) rfl hl.1 rfl (Nat.le_of_ble_eq_true rfl) dX7_second_136 ⟨Nat.zero_le _, Nat.zero_le _⟩ hN hK hP hD hS hA rfl (q0 := 9) rfl [9, 10, 11, 12, 13, 14] [0, 1, 2, 3, 4, 5, 6, 7, 8] rfl rfl ⟨rfl, rfl, by decide⟩ (fun r27 u H locs w28 hP hD hS => ?_)
                        obtain ⟨rfl, h29⟩ | ⟨rfl, h30⟩ : (r27 = (nI 1) ∧ hitM (playM (hearM cl (fm 0) (ai 0) (sna 0) wd (wma 0) (spa 0) (hea 0) (2 ^ (wma 0) - 1)) (onS (2 ^ (wma 0) - 1)) wd (waysM cl (ai 0) (sna 0) x (hea 0) (fm 0)) d (wma 0)) wd w2 d (absd x (hea 0)) (ai 0 * absd x (hea 0)) = true) ∨ (r27 = (nI 0) ∧ hitM (playM (hearM cl (fm 0) (ai 0) (sna 0) wd (wma 0) (spa 0) (hea 0) (2 ^ (wma 0) - 1)) (onS (2 ^ (wma 0) - 1)) wd (waysM cl (ai 0) (sna 0) x (hea 0) (fm 0)) d (wma 0)) wd w2 d (absd x (hea 0)) (ai 0 * absd x (hea 0)) = false) := w28
                        · refine x_if_eq (tgt := 146) hx hb dX7_second_139 (by decide) (by omega) (fun h31 => False.elim (by omega)) (fun h31 => ?_)
                          refine lv_iconst (v := (nI 1)) hx hb dX7_second_142 (by decide) ?_
                          refine lv_goto (tgt := 147) hx hb dX7_second_143 (by decide) ?_
                          refine lv_istore_n (lv' := [(3, .int (nI 1)), (4, .int (nI w2)), (2, .int (nI d)), (0, .ref rr), (1, .int (nI x))]) hx hb dX7_second_147 rfl hl (by decide) rfl (fun ls hl => ?_)
                          refine lv_iinc (v := (nI (w2 + 1))) (lv' := [(4, .int (nI (w2 + 1))), (3, .int (nI 1)), (2, .int (nI d)), (0, .ref rr), (1, .int (nI x))]) hx hb dX7_second_148 hl (k := 1) rfl (nI_inc _ 1) (by decide) rfl (fun ls hl => ?_)
                          refine lv_goto (tgt := 88) hx hb dX7_second_151 (by decide) ?_
                          exact ih88 (w2 + 1) 1 (by omega) (by omega) (Or.inl ⟨rfl, allB_s (p := (fun w => hitM (playM (hearM cl (fm 0) (ai 0) (sna 0) wd (wma 0) (spa 0) (hea 0) (2 ^ (wma 0) - 1)) (onS (2 ^ (wma 0) - 1)) wd (waysM cl (ai 0) (sna 0) x (hea 0) (fm 0)) d (wma 0)) wd w 0 (absd (spa 0) (hea 0)) (ai 0 * absd (spa 0) (hea 0)) && hitM (playM (hearM cl (fm 0) (ai 0) (sna 0) wd (wma 0) (spa 0) (hea 0) (2 ^ (wma 0) - 1)) (onS (2 ^ (wma 0) - 1)) wd (waysM cl (ai 0) (sna 0) x (hea 0) (fm 0)) d (wma 0)) wd w d (absd x (hea 0)) (ai 0 * absd x (hea 0)))) (by rcases hcase with hc | hc; exact hc.2; omega) (by show (_ && _) = true; rw [h24, h29]; rfl)⟩) (by omega) _ _ (hP.sub [9, 0, 1, 2, 3, 10, 4, 5, 11, 12, 13, 6, 7, 8, 14] rfl) (hD.sub [9, 0, 1, 2, 3, 10, 4, 5, 11, 12, 13, 6, 7, 8, 14] rfl rfl) hS _ (lv_sub hl [0, 1, 2, 3, 4] rfl)
                        · refine x_if_eq (tgt := 146) hx hb dX7_second_139 (by decide) (by omega) (fun h32 => ?_) (fun h32 => False.elim (by omega))
                          refine lv_iconst (v := (nI 0)) hx hb dX7_second_146 (by decide) ?_
                          refine lv_istore_n (lv' := [(3, .int (nI 0)), (4, .int (nI w2)), (2, .int (nI d)), (0, .ref rr), (1, .int (nI x))]) hx hb dX7_second_147 rfl hl (by decide) rfl (fun ls hl => ?_)
                          refine lv_iinc (v := (nI (w2 + 1))) (lv' := [(4, .int (nI (w2 + 1))), (3, .int (nI 0)), (2, .int (nI d)), (0, .ref rr), (1, .int (nI x))]) hx hb dX7_second_148 hl (k := 1) rfl (nI_inc _ 1) (by decide) rfl (fun ls hl => ?_)
                          refine lv_goto (tgt := 88) hx hb dX7_second_151 (by decide) ?_
                          exact ih88 (w2 + 1) 0 (by omega) (by omega) (Or.inr ⟨rfl, allB_f (p := (fun w => hitM (playM (hearM cl (fm 0) (ai 0) (sna 0) wd (wma 0) (spa 0) (hea 0) (2 ^ (wma 0) - 1)) (onS (2 ^ (wma 0) - 1)) wd (waysM cl (ai 0) (sna 0) x (hea 0) (fm 0)) d (wma 0)) wd w 0 (absd (spa 0) (hea 0)) (ai 0 * absd (spa 0) (hea 0)) && hitM (playM (hearM cl (fm 0) (ai 0) (sna 0) wd (wma 0) (spa 0) (hea 0) (2 ^ (wma 0) - 1)) (onS (2 ^ (wma 0) - 1)) wd (waysM cl (ai 0) (sna 0) x (hea 0) (fm 0)) d (wma 0)) wd w d (absd x (hea 0)) (ai 0 * absd x (hea 0)))) (i := w2) (by show (_ && _) = false; rw [h30, Bool.and_false]) (by omega)⟩) (by omega) _ _ (hP.sub [9, 0, 1, 2, 3, 10, 4, 5, 11, 12, 13, 6, 7, 8, 14] rfl) (hD.sub [9, 0, 1, 2, 3, 10, 4, 5, 11, 12, 13, 6, 7, 8, 14] rfl rfl) hS _ (lv_sub hl [0, 1, 2, 3, 4] rfl)
                      · refine x_if_eq (tgt := 146) hx hb dX7_second_122 (by decide) (by omega) (fun h33 => ?_) (fun h33 => False.elim (by omega))
                        refine lv_iconst (v := (nI 0)) hx hb dX7_second_146 (by decide) ?_
                        refine lv_istore_n (lv' := [(3, .int (nI 0)), (4, .int (nI w2)), (2, .int (nI d)), (0, .ref rr), (1, .int (nI x))]) hx hb dX7_second_147 rfl hl (by decide) rfl (fun ls hl => ?_)
                        refine lv_iinc (v := (nI (w2 + 1))) (lv' := [(4, .int (nI (w2 + 1))), (3, .int (nI 0)), (2, .int (nI d)), (0, .ref rr), (1, .int (nI x))]) hx hb dX7_second_148 hl (k := 1) rfl (nI_inc _ 1) (by decide) rfl (fun ls hl => ?_)
                        refine lv_goto (tgt := 88) hx hb dX7_second_151 (by decide) ?_
                        exact ih88 (w2 + 1) 0 (by omega) (by omega) (Or.inr ⟨rfl, allB_f (p := (fun w => hitM (playM (hearM cl (fm 0) (ai 0) (sna 0) wd (wma 0) (spa 0) (hea 0) (2 ^ (wma 0) - 1)) (onS (2 ^ (wma 0) - 1)) wd (waysM cl (ai 0) (sna 0) x (hea 0) (fm 0)) d (wma 0)) wd w 0 (absd (spa 0) (hea 0)) (ai 0 * absd (spa 0) (hea 0)) && hitM (playM (hearM cl (fm 0) (ai 0) (sna 0) wd (wma 0) (spa 0) (hea 0) (2 ^ (wma 0) - 1)) (onS (2 ^ (wma 0) - 1)) wd (waysM cl (ai 0) (sna 0) x (hea 0) (fm 0)) d (wma 0)) wd w d (absd x (hea 0)) (ai 0 * absd x (hea 0)))) (i := w2) (by show (_ && _) = false; rw [h25]; rfl) (by omega)⟩) (by omega) _ _ (hP.sub [9, 0, 1, 2, 3, 10, 4, 5, 11, 12, 13, 6, 7, 8, 14] rfl) (hD.sub [9, 0, 1, 2, 3, 10, 4, 5, 11, 12, 13, 6, 7, 8, 14] rfl rfl) hS _ (lv_sub hl [0, 1, 2, 3, 4] rfl)
              exact loop88 _ 0 1 (Nat.lt_succ_self _) (by omega) (Or.inl ⟨rfl, rfl⟩) (by omega) _ _ (hP.sub [0, 1, 2, 3, 4, 5, 6, 7, 8, 9, 10, 11, 12, 13, 14] rfl) (hD.sub [0, 1, 2, 3, 4, 5, 6, 7, 8, 9, 10, 11, 12, 13, 14] rfl rfl) hS _ (lv_sub hl [0, 1, 2, 3, 4] rfl)
            · obtain ⟨hr1, hr2, hr3⟩ := hrd w (by omega)
              obtain ⟨ho1, ho2, ho3, ho4, ho5⟩ := hokd w (by omega)
              have f34 : be w ≤ 30 := by omega
              have f35 : 1 ≤ va w := by omega
              have f36 : va w ≤ 7 := by omega
              have f37 : 1 ≤ lo w := by omega
              have f38 : lo w ≤ 60 := by omega
              refine lv_aload_n hx hb dX7_second_46 rfl (lv_at hl 2 rfl) ?_
              refine lv_iload_n hx hb dX7_second_47 rfl (lv_at hl 3 rfl) ?_
              refine lv_aload_n hx hb dX7_second_48 rfl (lv_at hl 2 rfl) ?_
              refine va_get (D := D) (ci := 7) (v := .ref (ad 8)) (C := RX7) (T := TX7) (N := 28) hx hb hts inX7 hown hK hP 0 rfl rfl 8 (by decide) fl31 (fun _ h9 => h9) rfl dX7_second_49 ?_
              refine lv_iload_n hx hb dX7_second_52 rfl (lv_at hl 0 rfl) ?_
              refine x_iald (A := A) hx hb hK hP 8 0 rfl rfl dX7_second_53 (by omega) (by omega) ?_
              refine lv_iload_n hx hb dX7_second_54 rfl (lv_at hl 1 rfl) ?_
              refine x_iadd hx hb dX7_second_55 ?_
              refine lv_aload_n hx hb dX7_second_56 rfl (lv_at hl 2 rfl) ?_
              refine va_get (D := D) (ci := 7) (v := .ref (ad 9)) (C := RX7) (T := TX7) (N := 28) hx hb hts inX7 hown hK hP 0 rfl rfl 9 (by decide) fl34 (fun _ h9 => h9) rfl dX7_second_57 ?_
              refine lv_iload_n hx hb dX7_second_60 rfl (lv_at hl 0 rfl) ?_
              refine x_iald (A := A) hx hb hK hP 9 0 rfl rfl dX7_second_61 (by omega) (by omega) ?_
              refine lv_aload_n hx hb dX7_second_62 rfl (lv_at hl 2 rfl) ?_
              refine va_get (D := D) (ci := 7) (v := .ref (ad 10)) (C := RX7) (T := TX7) (N := 28) hx hb hts inX7 hown hK hP 0 rfl rfl 10 (by decide) fl37 (fun _ h9 => h9) rfl dX7_second_63 ?_
              refine lv_iload_n hx hb dX7_second_66 rfl (lv_at hl 0 rfl) ?_
              refine x_iald (A := A) hx hb hK hP 10 0 rfl rfl dX7_second_67 (by omega) (by omega) ?_
              refine lv_aload_n hx hb dX7_second_68 rfl (lv_at hl 2 rfl) ?_
              refine va_get (D := D) (ci := 7) (v := .ref (ad 12)) (C := RX7) (T := TX7) (N := 28) hx hb hts inX7 hown hK hP 0 rfl rfl 12 (by decide) fl43 (fun _ h9 => h9) rfl dX7_second_69 ?_
              refine lv_iconst (v := (nI 0)) hx hb dX7_second_72 (by decide) ?_
              refine x_iald (A := A) hx hb hK hP 12 0 rfl rfl dX7_second_73 (by omega) (by omega) ?_
              refine k_Vv (q := (RX7, TX7, 28)) (ci := 7) (As := [.int (nI x), .int (nI (be w + d)), .int (nI (va w)), .int (nI (lo w)), .int (nI (hea 0))]) (wr := [(ad 7, eArr cI 4 wma), (ad 8, eArr cI 32 be), (ad 9, eArr cI 32 va), (ad 10, eArr cI 32 lo), (ad 11, eArr cI 4 spa), (ad 12, eArr cI 4 hea)]) ⟨hx, hb, hml, hown, hts⟩ (c_X7_say1 l D cI cC rr ad len kp uo tm em pc0 fm pq dq kq ai sna (playM (hearM cl (fm 0) (ai 0) (sna 0) wd (wma 0) (spa 0) (hea 0) (2 ^ (wma 0) - 1)) (fun _ => true) wd (waysM cl (ai 0) (sna 0) x (hea 0) (fm 0)) d w) cl hrc hok (by omega) x (be w + d) (va w) (lo w) (hea 0) ⟨by omega, by omega⟩ (by omega) (okS_play (okS_play okS_quiet hokd _ (Nat.le_refl _)) hokd w (by omega))) (cwV 5 hts gX7_second_X7_say1 rfl rfl rfl (by decide +kernel) ⟨Nat.le_of_ble_eq_true rfl, Nat.le_of_ble_eq_true rfl⟩) rfl hl.1 rfl (Nat.le_of_ble_eq_true rfl) dX7_second_74 ⟨Nat.zero_le _, Nat.zero_le _⟩ hN hK hP hD hS hA rfl (q0 := 0) rfl [0, 1, 2, 3, 4, 5, 6, 13, 14] [7, 8, 9, 10, 11, 12] rfl rfl ⟨rfl, rfl, by decide⟩ (fun u H locs w40 hP hD hS => ?_)
              refine lv_iinc (v := (nI (w + 1))) (lv' := [(3, .int (nI (w + 1))), (2, .int (nI d)), (0, .ref rr), (1, .int (nI x))]) hx hb dX7_second_77 hl (k := 0) rfl (nI_inc _ 1) (by decide) rfl (fun ls hl => ?_)
              refine lv_goto (tgt := 36) hx hb dX7_second_80 (by decide) ?_
              have hP : va_P D vwCl [(ad 7, eArr cI 4 wma), (ad 8, eArr cI 32 be), (ad 9, eArr cI 32 va), (ad 10, eArr cI 32 lo), (ad 11, eArr cI 4 spa), (ad 12, eArr cI 4 hea), (rr, eMod ad len kp uo tm em pc0), (ad 2, eArr cI 2 fm), (ad 3, eArr cI 8 pq), (ad 4, eArr cI 8 dq), (ad 5, eArr cI 8 kq), (ad 6, eArr cI 2 ai), (ad 13, eArr cI 4 sna), (ad 20, eArr cI 150 ((playM (hearM cl (fm 0) (ai 0) (sna 0) wd (wma 0) (spa 0) (hea 0) (2 ^ (wma 0) - 1)) (fun _ => true) wd (waysM cl (ai 0) (sna 0) x (hea 0) (fm 0)) d (w + 1)).1)), (ad 21, eArr cI 150 ((playM (hearM cl (fm 0) (ai 0) (sna 0) wd (wma 0) (spa 0) (hea 0) (2 ^ (wma 0) - 1)) (fun _ => true) wd (waysM cl (ai 0) (sna 0) x (hea 0) (fm 0)) d (w + 1)).2))] H := by rw [playM_t (on := fun _ => true) rfl, ← hr1, ← hr2, ← hr3]; exact hP
              have hD : va_D A [(ad 7, eArr cI 4 wma), (ad 8, eArr cI 32 be), (ad 9, eArr cI 32 va), (ad 10, eArr cI 32 lo), (ad 11, eArr cI 4 spa), (ad 12, eArr cI 4 hea), (rr, eMod ad len kp uo tm em pc0), (ad 2, eArr cI 2 fm), (ad 3, eArr cI 8 pq), (ad 4, eArr cI 8 dq), (ad 5, eArr cI 8 kq), (ad 6, eArr cI 2 ai), (ad 13, eArr cI 4 sna), (ad 20, eArr cI 150 ((playM (hearM cl (fm 0) (ai 0) (sna 0) wd (wma 0) (spa 0) (hea 0) (2 ^ (wma 0) - 1)) (fun _ => true) wd (waysM cl (ai 0) (sna 0) x (hea 0) (fm 0)) d (w + 1)).1)), (ad 21, eArr cI 150 ((playM (hearM cl (fm 0) (ai 0) (sna 0) wd (wma 0) (spa 0) (hea 0) (2 ^ (wma 0) - 1)) (fun _ => true) wd (waysM cl (ai 0) (sna 0) x (hea 0) (fm 0)) d (w + 1)).2))] := by rw [playM_t (on := fun _ => true) rfl, ← hr1, ← hr2, ← hr3]; exact hD
              exact ih36 (w + 1) (by omega) (by omega) _ _ (hP.sub [6, 7, 8, 9, 10, 11, 12, 0, 1, 2, 3, 4, 5, 13, 14] rfl) (hD.sub [6, 7, 8, 9, 10, 11, 12, 0, 1, 2, 3, 4, 5, 13, 14] rfl rfl) hS _ (lv_sub hl [0, 1, 2, 3] rfl)
        have hP : va_P D vwCl [(ad 11, eArr cI 4 spa), (ad 12, eArr cI 4 hea), (rr, eMod ad len kp uo tm em pc0), (ad 2, eArr cI 2 fm), (ad 3, eArr cI 8 pq), (ad 4, eArr cI 8 dq), (ad 5, eArr cI 8 kq), (ad 6, eArr cI 2 ai), (ad 13, eArr cI 4 sna), (ad 7, eArr cI 4 wma), (ad 8, eArr cI 32 be), (ad 9, eArr cI 32 va), (ad 10, eArr cI 32 lo), (ad 20, eArr cI 150 ((playM (hearM cl (fm 0) (ai 0) (sna 0) wd (wma 0) (spa 0) (hea 0) (2 ^ (wma 0) - 1)) (fun _ => true) wd (waysM cl (ai 0) (sna 0) x (hea 0) (fm 0)) d 0).1)), (ad 21, eArr cI 150 ((playM (hearM cl (fm 0) (ai 0) (sna 0) wd (wma 0) (spa 0) (hea 0) (2 ^ (wma 0) - 1)) (fun _ => true) wd (waysM cl (ai 0) (sna 0) x (hea 0) (fm 0)) d 0).2))] H := by rw [show playM (hearM cl (fm 0) (ai 0) (sna 0) wd (wma 0) (spa 0) (hea 0) (2 ^ (wma 0) - 1)) (fun _ => true) wd (waysM cl (ai 0) (sna 0) x (hea 0) (fm 0)) d 0 = hearM cl (fm 0) (ai 0) (sna 0) wd (wma 0) (spa 0) (hea 0) (2 ^ (wma 0) - 1) from rfl, show 2 ^ (wma 0) - 1 = 2 ^ (wma 0) - 1 - 0 from rfl]; exact hP
        have hD : va_D A [(ad 11, eArr cI 4 spa), (ad 12, eArr cI 4 hea), (rr, eMod ad len kp uo tm em pc0), (ad 2, eArr cI 2 fm), (ad 3, eArr cI 8 pq), (ad 4, eArr cI 8 dq), (ad 5, eArr cI 8 kq), (ad 6, eArr cI 2 ai), (ad 13, eArr cI 4 sna), (ad 7, eArr cI 4 wma), (ad 8, eArr cI 32 be), (ad 9, eArr cI 32 va), (ad 10, eArr cI 32 lo), (ad 20, eArr cI 150 ((playM (hearM cl (fm 0) (ai 0) (sna 0) wd (wma 0) (spa 0) (hea 0) (2 ^ (wma 0) - 1)) (fun _ => true) wd (waysM cl (ai 0) (sna 0) x (hea 0) (fm 0)) d 0).1)), (ad 21, eArr cI 150 ((playM (hearM cl (fm 0) (ai 0) (sna 0) wd (wma 0) (spa 0) (hea 0) (2 ^ (wma 0) - 1)) (fun _ => true) wd (waysM cl (ai 0) (sna 0) x (hea 0) (fm 0)) d 0).2))] := by rw [show playM (hearM cl (fm 0) (ai 0) (sna 0) wd (wma 0) (spa 0) (hea 0) (2 ^ (wma 0) - 1)) (fun _ => true) wd (waysM cl (ai 0) (sna 0) x (hea 0) (fm 0)) d 0 = hearM cl (fm 0) (ai 0) (sna 0) wd (wma 0) (spa 0) (hea 0) (2 ^ (wma 0) - 1) from rfl, show 2 ^ (wma 0) - 1 = 2 ^ (wma 0) - 1 - 0 from rfl]; exact hD
        exact loop36 _ 0 (Nat.lt_succ_self _) (by omega) _ _ (hP.sub [2, 3, 4, 5, 6, 7, 8, 9, 10, 11, 12, 0, 1, 13, 14] rfl) (hD.sub [2, 3, 4, 5, 6, 7, 8, 9, 10, 11, 12, 0, 1, 13, 14] rfl rfl) hS _ (lv_sub hl [0, 1, 2, 3] rfl)
    exact loop11 _ 0 lg vg (Nat.lt_succ_self _) (by omega) _ _ (hP.sub [0, 1, 2, 3, 4, 5, 6, 7, 8, 9, 10, 11, 12, 13, 14] rfl) (hD.sub [0, 1, 2, 3, 4, 5, 6, 7, 8, 9, 10, 11, 12, 13, 14] rfl rfl) hS _ (lv_sub hl [0, 1, 2] rfl)
  · exact False.elim (by omega)

set_option maxRecDepth 100000 in
set_option maxHeartbeats 4000000 in
theorem c_X7_second_none (l : Launch) (D : va_G) (cI cC : ClassId) (rr : Nat) (ad : Nat → Nat) (len : Nat) (kp : Nat) (uo : Nat) (tm : Nat) (em : Nat) (pc0 : Nat) (fm : Nat → Nat) (pq : Nat → Nat) (dq : Nat → Nat) (kq : Nat → Nat) (ai : Nat → Nat) (sna : Nat → Nat) (wma : Nat → Nat) (be : Nat → Nat) (va : Nat → Nat) (lo : Nat → Nat) (spa : Nat → Nat) (hea : Nat → Nat) (lg : Nat → Nat) (vg : Nat → Nat) (cl : Nat → Nat) (hrc : relC pq dq kq cl (fm 0)) (hok : okC cl (fm 0)) (hfm : fm 0 ≤ 4 ∧ ai 0 ≤ 99 ∧ sna 0 < 2147483648) (wd : Nat → Nat) (hrd : relD be va lo wd (wma 0)) (hokd : okD wd (wma 0)) (hnw : wma 0 ≤ 8) (hsp : spa 0 ≤ 40 ∧ hea 0 ≤ 40) (x : Nat) (hx4 : x ≤ 40) (hf : ∀ d, d ≤ 60 → secB cl (fm 0) (ai 0) (sna 0) wd (wma 0) (spa 0) (hea 0) x  d = false) : mtI l D cI cC yX7_second wsX7_second ({ frames := 4, cells := 0, slots := 0, locals := 98 }) [.ref rr, .int (nI x)] [(rr, eMod ad len kp uo tm em pc0), (ad 2, eArr cI 2 fm), (ad 3, eArr cI 8 pq), (ad 4, eArr cI 8 dq), (ad 5, eArr cI 8 kq), (ad 6, eArr cI 2 ai), (ad 13, eArr cI 4 sna), (ad 7, eArr cI 4 wma), (ad 8, eArr cI 32 be), (ad 9, eArr cI 32 va), (ad 10, eArr cI 32 lo), (ad 11, eArr cI 4 spa), (ad 12, eArr cI 4 hea), (ad 20, eArr cI 150 lg), (ad 21, eArr cI 150 vg)] (fun (r : Int32) ((lg', vg') : (Nat → Nat) × (Nat → Nat)) => r = (iI (-4))) (fun ((lg', vg') : (Nat → Nat) × (Nat → Nat)) => [(rr, eMod ad len kp uo tm em pc0), (ad 2, eArr cI 2 fm), (ad 3, eArr cI 8 pq), (ad 4, eArr cI 8 dq), (ad 5, eArr cI 8 kq), (ad 6, eArr cI 2 ai), (ad 13, eArr cI 4 sna), (ad 7, eArr cI 4 wma), (ad 8, eArr cI 32 be), (ad 9, eArr cI 32 va), (ad 10, eArr cI 32 lo), (ad 11, eArr cI 4 spa), (ad 12, eArr cI 4 hea), (ad 20, eArr cI 150 lg'), (ad 21, eArr cI 150 vg')]) := by
  refine mtI_of (cc := cX7_second) (maxL := 5) (ret := (some .int)) (by decide) rfl rfl ?_
  intro p e s m below meth c A hx hb hml hr hts hown hlocks hN hA hK hP hD hS ls hl
  have hown : s.vm.findClass RX7 = some m.cls := hown
  have hl : lv_has ls 5 [(0, .ref rr), (1, .int (nI x))] := hl
  obtain ⟨H, hHe⟩ : ∃ H, H = s.heap := ⟨_, rfl⟩
  rw [← hHe] at hP ⊢
  have hS : va_S A s.heap H [] := by rw [hHe]; exact va_S.rf
  have fl40 := hts (.fieldLink RX7 40 "EchoPaysRentModel" "speaker" "[I") (by decide +kernel)
  have inX7 : ∀ w ∈ wsX70, w ∈ wsX7_second := by decide +kernel
  have fl43 := hts (.fieldLink RX7 43 "EchoPaysRentModel" "hearer" "[I") (by decide +kernel)
  have fl28 := hts (.fieldLink RX7 28 "EchoPaysRentModel" "wordMany" "[I") (by decide +kernel)
  have fl31 := hts (.fieldLink RX7 31 "EchoPaysRentModel" "beats" "[I") (by decide +kernel)
  have fl34 := hts (.fieldLink RX7 34 "EchoPaysRentModel" "values" "[I") (by decide +kernel)
  have fl37 := hts (.fieldLink RX7 37 "EchoPaysRentModel" "louds" "[I") (by decide +kernel)
  refine lv_iload_n hx hb dX7_second_0 rfl (lv_at hl 1 rfl) ?_
  refine k_S (As := [.int (iI (((x : Nat) : Int)))]) (wr := [(rr, eMod ad len kp uo tm em pc0), (ad 2, eArr cI 2 fm), (ad 3, eArr cI 8 pq), (ad 4, eArr cI 8 dq), (ad 5, eArr cI 8 kq), (ad 6, eArr cI 2 ai), (ad 13, eArr cI 4 sna), (ad 7, eArr cI 4 wma), (ad 8, eArr cI 32 be), (ad 9, eArr cI 32 va), (ad 10, eArr cI 32 lo), (ad 11, eArr cI 4 spa), (ad 12, eArr cI 4 hea), (ad 20, eArr cI 150 lg), (ad 21, eArr cI 150 vg)]) ⟨hx, hb, hml, hown, hts⟩ (c_X7_isYard l D cI cC (((x : Nat) : Int)) (by omega)) (cwS 1 hts gX7_second_X7_isYard rfl rfl rfl (by decide +kernel) ⟨Nat.le_of_ble_eq_true rfl, Nat.le_of_ble_eq_true rfl⟩) rfl hl.1 (by simp only [nI_iI]; rfl) (Nat.le_of_ble_eq_true rfl) dX7_second_1 ⟨Nat.zero_le _, Nat.zero_le _⟩ hN hK hP hD hS hA [] [0, 1, 2, 3, 4, 5, 6, 7, 8, 9, 10, 11, 12, 13, 14] rfl rfl ⟨rfl, rfl, by decide⟩ (fun r1 u H locs w2 hP hD hS => ?_)
  obtain ⟨rfl, h3, h4⟩ | ⟨rfl, h5⟩ : (r1 = (nI 1) ∧ 0 ≤ (((x : Nat) : Int)) ∧ (((x : Nat) : Int)) ≤ 40) ∨ (r1 = (nI 0) ∧ ((((x : Nat) : Int)) < 0 ∨ 40 < (((x : Nat) : Int)))) := w2
  · refine x_if_ne (tgt := 9) hx hb dX7_second_4 (by decide) (by omega) (fun h6 => ?_) (fun h6 => False.elim (by omega))
    refine lv_iconst (v := (nI 0)) hx hb dX7_second_9 (by decide) ?_
    refine lv_istore_n (lv' := [(2, .int (nI 0)), (0, .ref rr), (1, .int (nI x))]) hx hb dX7_second_10 rfl hl (by decide) rfl (fun ls hl => ?_)
    have loop11 : ∀ (nn11 : Nat) (d : Nat) (lg' : Nat → Nat) (vg' : Nat → Nat), 61 - d < nn11 → (d ≤ 61) → ∀ (H : Heap) (locs : List Loc), va_P D vwCl [(rr, eMod ad len kp uo tm em pc0), (ad 2, eArr cI 2 fm), (ad 3, eArr cI 8 pq), (ad 4, eArr cI 8 dq), (ad 5, eArr cI 8 kq), (ad 6, eArr cI 2 ai), (ad 13, eArr cI 4 sna), (ad 7, eArr cI 4 wma), (ad 8, eArr cI 32 be), (ad 9, eArr cI 32 va), (ad 10, eArr cI 32 lo), (ad 11, eArr cI 4 spa), (ad 12, eArr cI 4 hea), (ad 20, eArr cI 150 lg'), (ad 21, eArr cI 150 vg')] H → va_D A [(rr, eMod ad len kp uo tm em pc0), (ad 2, eArr cI 2 fm), (ad 3, eArr cI 8 pq), (ad 4, eArr cI 8 dq), (ad 5, eArr cI 8 kq), (ad 6, eArr cI 2 ai), (ad 13, eArr cI 4 sna), (ad 7, eArr cI 4 wma), (ad 8, eArr cI 32 be), (ad 9, eArr cI 32 va), (ad 10, eArr cI 32 lo), (ad 11, eArr cI 4 spa), (ad 12, eArr cI 4 hea), (ad 20, eArr cI 150 lg'), (ad 21, eArr cI 150 vg')] → va_S A s.heap H locs → ∀ ls : Array Slot, lv_has ls 5 [(2, .int (nI d)), (0, .ref rr), (1, .int (nI x))] → W p l e (headSpec wsX7_second ({ frames := 4, cells := 0, slots := 0, locals := 98 })).room s m ([.ref rr, .int (nI x)] : List Value).toArray below meth c H locs 0 0 (MQ below (va_Qi (fun (r : Int32) ((lg', vg') : (Nat → Nat) × (Nat → Nat)) => r = (iI (-4))) (ctB D cI cC (fun ((lg', vg') : (Nat → Nat) × (Nat → Nat)) => [(rr, eMod ad len kp uo tm em pc0), (ad 2, eArr cI 2 fm), (ad 3, eArr cI 8 pq), (ad 4, eArr cI 8 dq), (ad 5, eArr cI 8 kq), (ad 6, eArr cI 2 ai), (ad 13, eArr cI 4 sna), (ad 7, eArr cI 4 wma), (ad 8, eArr cI 32 be), (ad 9, eArr cI 32 va), (ad 10, eArr cI 32 lo), (ad 11, eArr cI 4 spa), (ad 12, eArr cI 4 hea), (ad 20, eArr cI 150 lg'), (ad 21, eArr cI 150 vg')]) A) A) ([.ref rr, .int (nI x)] : List Value).toArray s 0 0 A) (F0 m 11 ls []) := by
      intro nn11
      induction nn11 with
      | zero =>
        intro d lg' vg' hm7
        exact absurd hm7 (Nat.not_lt_zero _)
      | succ nn11 ih11 =>
        intro d lg' vg' hm7 hi8 H locs hP hD hS ls hl
        refine lv_iload_n hx hb dX7_second_11 rfl (lv_at hl 0 rfl) ?_
        refine lv_bipush (v := (nI 60)) hx hb dX7_second_12 (by decide) ?_
        refine x_icmp_gt (tgt := 166) hx hb dX7_second_14 (by decide) (by omega) (by omega) (fun h9 => ?_) (fun h9 => ?_)
        · refine lv_bipush (v := (iI (-4))) hx hb dX7_second_166 (by decide) ?_
          exact x_iret hx hb hr hlocks dX7_second_168 rfl (post := fun (r : Int32) ((lg', vg') : (Nat → Nat) × (Nat → Nat)) => r = (iI (-4))) (w1 := fun ((lg', vg') : (Nat → Nat) × (Nat → Nat)) => [(rr, eMod ad len kp uo tm em pc0), (ad 2, eArr cI 2 fm), (ad 3, eArr cI 8 pq), (ad 4, eArr cI 8 dq), (ad 5, eArr cI 8 kq), (ad 6, eArr cI 2 ai), (ad 13, eArr cI 4 sna), (ad 7, eArr cI 4 wma), (ad 8, eArr cI 32 be), (ad 9, eArr cI 32 va), (ad 10, eArr cI 32 lo), (ad 11, eArr cI 4 spa), (ad 12, eArr cI 4 hea), (ad 20, eArr cI 150 lg'), (ad 21, eArr cI 150 vg')]) (lg', vg') rfl hK hP hD hS
        · refine lv_aload_n hx hb dX7_second_17 rfl (lv_at hl 1 rfl) ?_
          refine lv_aload_n hx hb dX7_second_18 rfl (lv_at hl 1 rfl) ?_
          refine va_get (D := D) (ci := 7) (v := .ref (ad 11)) (C := RX7) (T := TX7) (N := 28) hx hb hts inX7 hown hK hP 0 rfl rfl 11 (by decide) fl40 (fun _ h9 => h9) rfl dX7_second_19 ?_
          refine lv_iconst (v := (nI 0)) hx hb dX7_second_22 (by decide) ?_
          refine x_iald (A := A) hx hb hK hP 11 0 rfl rfl dX7_second_23 (by omega) (by omega) ?_
          refine lv_aload_n hx hb dX7_second_24 rfl (lv_at hl 1 rfl) ?_
          refine va_get (D := D) (ci := 7) (v := .ref (ad 12)) (C := RX7) (T := TX7) (N := 28) hx hb hts inX7 hown hK hP 0 rfl rfl 12 (by decide) fl43 (fun _ h9 => h9) rfl dX7_second_25 ?_
          refine lv_iconst (v := (nI 0)) hx hb dX7_second_28 (by decide) ?_
          refine x_iald (A := A) hx hb hK hP 12 0 rfl rfl dX7_second_29 (by omega) (by omega) ?_
          refine lv_iconst (v := (nI 0)) hx hb dX7_second_30 (by decide) ?_
          refine k_Vv (q := (RX7, TX7, 28)) (ci := 7) (As := [.int (nI (spa 0)), .int (nI (hea 0)), .int (nI 0)]) (wr := [(ad 11, eArr cI 4 spa), (ad 12, eArr cI 4 hea)]) ⟨hx, hb, hml, hown, hts⟩ (c_X7_sayAll l D cI cC rr ad len kp uo tm em pc0 fm pq dq kq ai sna wma be va lo cl hrc hok (by omega) wd hrd hokd (by omega) (spa 0) (hea 0) (by omega) 0 (Nat.two_pow_pos _) lg' vg') (cwV 3 hts gX7_second_X7_sayAll rfl rfl rfl (by decide +kernel) ⟨Nat.le_of_ble_eq_true rfl, Nat.le_of_ble_eq_true rfl⟩) rfl hl.1 rfl (Nat.le_of_ble_eq_true rfl) dX7_second_31 ⟨Nat.zero_le _, Nat.zero_le _⟩ hN hK hP hD hS hA rfl (q0 := 0) rfl [0, 1, 2, 3, 4, 5, 6, 7, 8, 9, 10, 13, 14] [11, 12] rfl rfl ⟨rfl, rfl, by decide⟩ (fun u H locs w11 hP hD hS => ?_)
          refine lv_iconst (v := (nI 0)) hx hb dX7_second_34 (by decide) ?_
          refine lv_istore_n (lv' := [(3, .int (nI 0)), (2, .int (nI d)), (0, .ref rr), (1, .int (nI x))]) hx hb dX7_second_35 rfl hl (by decide) rfl (fun ls hl => ?_)
          have loop36 : ∀ (nn36 : Nat) (w : Nat), wma 0 - w < nn36 → (w ≤ wma 0) → ∀ (H : Heap) (locs : List Loc), va_P D vwCl [(rr, eMod ad len kp uo tm em pc0), (ad 2, eArr cI 2 fm), (ad 3, eArr cI 8 pq), (ad 4, eArr cI 8 dq), (ad 5, eArr cI 8 kq), (ad 6, eArr cI 2 ai), (ad 13, eArr cI 4 sna), (ad 7, eArr cI 4 wma), (ad 8, eArr cI 32 be), (ad 9, eArr cI 32 va), (ad 10, eArr cI 32 lo), (ad 11, eArr cI 4 spa), (ad 12, eArr cI 4 hea), (ad 20, eArr cI 150 ((playM (hearM cl (fm 0) (ai 0) (sna 0) wd (wma 0) (spa 0) (hea 0) (2 ^ (wma 0) - 1)) (fun _ => true) wd (waysM cl (ai 0) (sna 0) x (hea 0) (fm 0)) d w).1)), (ad 21, eArr cI 150 ((playM (hearM cl (fm 0) (ai 0) (sna 0) wd (wma 0) (spa 0) (hea 0) (2 ^ (wma 0) - 1)) (fun _ => true) wd (waysM cl (ai 0) (sna 0) x (hea 0) (fm 0)) d w).2))] H → va_D A [(rr, eMod ad len kp uo tm em pc0), (ad 2, eArr cI 2 fm), (ad 3, eArr cI 8 pq), (ad 4, eArr cI 8 dq), (ad 5, eArr cI 8 kq), (ad 6, eArr cI 2 ai), (ad 13, eArr cI 4 sna), (ad 7, eArr cI 4 wma), (ad 8, eArr cI 32 be), (ad 9, eArr cI 32 va), (ad 10, eArr cI 32 lo), (ad 11, eArr cI 4 spa), (ad 12, eArr cI 4 hea), (ad 20, eArr cI 150 ((playM (hearM cl (fm 0) (ai 0) (sna 0) wd (wma 0) (spa 0) (hea 0) (2 ^ (wma 0) - 1)) (fun _ => true) wd (waysM cl (ai 0) (sna 0) x (hea 0) (fm 0)) d w).1)), (ad 21, eArr cI 150 ((playM (hearM cl (fm 0) (ai 0) (sna 0) wd (wma 0) (spa 0) (hea 0) (2 ^ (wma 0) - 1)) (fun _ => true) wd (waysM cl (ai 0) (sna 0) x (hea 0) (fm 0)) d w).2))] → va_S A s.heap H locs → ∀ ls : Array Slot, lv_has ls 5 [(3, .int (nI w)), (2, .int (nI d)), (0, .ref rr), (1, .int (nI x))] → W p l e (headSpec wsX7_second ({ frames := 4, cells := 0, slots := 0, locals := 98 })).room s m ([.ref rr, .int (nI x)] : List Value).toArray below meth c H locs 0 0 (MQ below (va_Qi (fun (r : Int32) ((lg', vg') : (Nat → Nat) × (Nat → Nat)) => r = (iI (-4))) (ctB D cI cC (fun ((lg', vg') : (Nat → Nat) × (Nat → Nat)) => [(rr, eMod ad len kp uo tm em pc0), (ad 2, eArr cI 2 fm), (ad 3, eArr cI 8 pq), (ad 4, eArr cI 8 dq), (ad 5, eArr cI 8 kq), (ad 6, eArr cI 2 ai), (ad 13, eArr cI 4 sna), (ad 7, eArr cI 4 wma), (ad 8, eArr cI 32 be), (ad 9, eArr cI 32 va), (ad 10, eArr cI 32 lo), (ad 11, eArr cI 4 spa), (ad 12, eArr cI 4 hea), (ad 20, eArr cI 150 lg'), (ad 21, eArr cI 150 vg')]) A) A) ([.ref rr, .int (nI x)] : List Value).toArray s 0 0 A) (F0 m 36 ls []) := by
            intro nn36
            induction nn36 with
            | zero =>
              intro w hm12
              exact absurd hm12 (Nat.not_lt_zero _)
            | succ nn36 ih36 =>
              intro w hm12 hi13 H locs hP hD hS ls hl
              refine lv_iload_n hx hb dX7_second_36 rfl (lv_at hl 0 rfl) ?_
              refine lv_aload_n hx hb dX7_second_37 rfl (lv_at hl 2 rfl) ?_
              refine va_get (D := D) (ci := 7) (v := .ref (ad 7)) (C := RX7) (T := TX7) (N := 28) hx hb hts inX7 hown hK hP 0 rfl rfl 7 (by decide) fl28 (fun _ h9 => h9) rfl dX7_second_38 ?_
              refine lv_iconst (v := (nI 0)) hx hb dX7_second_41 (by decide) ?_
              refine x_iald (A := A) hx hb hK hP 7 0 rfl rfl dX7_second_42 (by omega) (by omega) ?_
              refine x_icmp_ge (tgt := 83) hx hb dX7_second_43 (by decide) (by omega) (by omega) (fun h14 => ?_) (fun h14 => ?_)
              · have ew1 : w = wma 0 := by omega
                have hP : va_P D vwCl [(rr, eMod ad len kp uo tm em pc0), (ad 2, eArr cI 2 fm), (ad 3, eArr cI 8 pq), (ad 4, eArr cI 8 dq), (ad 5, eArr cI 8 kq), (ad 6, eArr cI 2 ai), (ad 13, eArr cI 4 sna), (ad 7, eArr cI 4 wma), (ad 8, eArr cI 32 be), (ad 9, eArr cI 32 va), (ad 10, eArr cI 32 lo), (ad 11, eArr cI 4 spa), (ad 12, eArr cI 4 hea), (ad 20, eArr cI 150 ((playM (hearM cl (fm 0) (ai 0) (sna 0) wd (wma 0) (spa 0) (hea 0) (2 ^ (wma 0) - 1)) (onS (2 ^ (wma 0) - 1)) wd (waysM cl (ai 0) (sna 0) x (hea 0) (fm 0)) d (wma 0)).1)), (ad 21, eArr cI 150 ((playM (hearM cl (fm 0) (ai 0) (sna 0) wd (wma 0) (spa 0) (hea 0) (2 ^ (wma 0) - 1)) (onS (2 ^ (wma 0) - 1)) wd (waysM cl (ai 0) (sna 0) x (hea 0) (fm 0)) d (wma 0)).2))] H := by rw [show playM (hearM cl (fm 0) (ai 0) (sna 0) wd (wma 0) (spa 0) (hea 0) (2 ^ (wma 0) - 1)) (onS (2 ^ (wma 0) - 1)) wd (waysM cl (ai 0) (sna 0) x (hea 0) (fm 0)) d (wma 0) = playM (hearM cl (fm 0) (ai 0) (sna 0) wd (wma 0) (spa 0) (hea 0) (2 ^ (wma 0) - 1)) (fun _ => true) wd (waysM cl (ai 0) (sna 0) x (hea 0) (fm 0)) d w from by rw [ew1]; exact (playM_on (fun w hw => (onS_all hnw hw).symm) _ wd _ d (wma 0) (Nat.le_refl _)).symm]; exact hP
                have hD : va_D A [(rr, eMod ad len kp uo tm em pc0), (ad 2, eArr cI 2 fm), (ad 3, eArr cI 8 pq), (ad 4, eArr cI 8 dq), (ad 5, eArr cI 8 kq), (ad 6, eArr cI 2 ai), (ad 13, eArr cI 4 sna), (ad 7, eArr cI 4 wma), (ad 8, eArr cI 32 be), (ad 9, eArr cI 32 va), (ad 10, eArr cI 32 lo), (ad 11, eArr cI 4 spa), (ad 12, eArr cI 4 hea), (ad 20, eArr cI 150 ((playM (hearM cl (fm 0) (ai 0) (sna 0) wd (wma 0) (spa 0) (hea 0) (2 ^ (wma 0) - 1)) (onS (2 ^ (wma 0) - 1)) wd (waysM cl (ai 0) (sna 0) x (hea 0) (fm 0)) d (wma 0)).1)), (ad 21, eArr cI 150 ((playM (hearM cl (fm 0) (ai 0) (sna 0) wd (wma 0) (spa 0) (hea 0) (2 ^ (wma 0) - 1)) (onS (2 ^ (wma 0) - 1)) wd (waysM cl (ai 0) (sna 0) x (hea 0) (fm 0)) d (wma 0)).2))] := by rw [show playM (hearM cl (fm 0) (ai 0) (sna 0) wd (wma 0) (spa 0) (hea 0) (2 ^ (wma 0) - 1)) (onS (2 ^ (wma 0) - 1)) wd (waysM cl (ai 0) (sna 0) x (hea 0) (fm 0)) d (wma 0) = playM (hearM cl (fm 0) (ai 0) (sna 0) wd (wma 0) (spa 0) (hea 0) (2 ^ (wma 0) - 1)) (fun _ => true) wd (waysM cl (ai 0) (sna 0) x (hea 0) (fm 0)) d w from by rw [ew1]; exact (playM_on (fun w hw => (onS_all hnw hw).symm) _ wd _ d (wma 0) (Nat.le_refl _)).symm]; exact hD
                refine lv_iconst (v := (nI 1)) hx hb dX7_second_83 (by decide) ?_
                refine lv_istore_n (lv' := [(3, .int (nI 1)), (2, .int (nI d)), (0, .ref rr), (1, .int (nI x))]) hx hb dX7_second_84 rfl hl (by decide) rfl (fun ls hl => ?_)
                refine lv_iconst (v := (nI 0)) hx hb dX7_second_85 (by decide) ?_
                refine lv_istore (lv' := [(4, .int (nI 0)), (3, .int (nI 1)), (2, .int (nI d)), (0, .ref rr), (1, .int (nI x))]) hx hb dX7_second_86 hl (by decide) rfl (fun ls hl => ?_)
                have loop88 : ∀ (nn88 : Nat) (w2 : Nat) (al : Nat), wma 0 - w2 < nn88 → (w2 ≤ wma 0) → ((al = 1 ∧ allB (fun w => hitM (playM (hearM cl (fm 0) (ai 0) (sna 0) wd (wma 0) (spa 0) (hea 0) (2 ^ (wma 0) - 1)) (onS (2 ^ (wma 0) - 1)) wd (waysM cl (ai 0) (sna 0) x (hea 0) (fm 0)) d (wma 0)) wd w 0 (absd (spa 0) (hea 0)) (ai 0 * absd (spa 0) (hea 0)) && hitM (playM (hearM cl (fm 0) (ai 0) (sna 0) wd (wma 0) (spa 0) (hea 0) (2 ^ (wma 0) - 1)) (onS (2 ^ (wma 0) - 1)) wd (waysM cl (ai 0) (sna 0) x (hea 0) (fm 0)) d (wma 0)) wd w d (absd x (hea 0)) (ai 0 * absd x (hea 0))) w2 = true) ∨ (al = 0 ∧ allB (fun w => hitM (playM (hearM cl (fm 0) (ai 0) (sna 0) wd (wma 0) (spa 0) (hea 0) (2 ^ (wma 0) - 1)) (onS (2 ^ (wma 0) - 1)) wd (waysM cl (ai 0) (sna 0) x (hea 0) (fm 0)) d (wma 0)) wd w 0 (absd (spa 0) (hea 0)) (ai 0 * absd (spa 0) (hea 0)) && hitM (playM (hearM cl (fm 0) (ai 0) (sna 0) wd (wma 0) (spa 0) (hea 0) (2 ^ (wma 0) - 1)) (onS (2 ^ (wma 0) - 1)) wd (waysM cl (ai 0) (sna 0) x (hea 0) (fm 0)) d (wma 0)) wd w d (absd x (hea 0)) (ai 0 * absd x (hea 0))) w2 = false)) → (al ≤ 1) → ∀ (H : Heap) (locs : List Loc), va_P D vwCl [(rr, eMod ad len kp uo tm em pc0), (ad 2, eArr cI 2 fm), (ad 3, eArr cI 8 pq), (ad 4, eArr cI 8 dq), (ad 5, eArr cI 8 kq), (ad 6, eArr cI 2 ai), (ad 13, eArr cI 4 sna), (ad 7, eArr cI 4 wma), (ad 8, eArr cI 32 be), (ad 9, eArr cI 32 va), (ad 10, eArr cI 32 lo), (ad 11, eArr cI 4 spa), (ad 12, eArr cI 4 hea), (ad 20, eArr cI 150 ((playM (hearM cl (fm 0) (ai 0) (sna 0) wd (wma 0) (spa 0) (hea 0) (2 ^ (wma 0) - 1)) (onS (2 ^ (wma 0) - 1)) wd (waysM cl (ai 0) (sna 0) x (hea 0) (fm 0)) d (wma 0)).1)), (ad 21, eArr cI 150 ((playM (hearM cl (fm 0) (ai 0) (sna 0) wd (wma 0) (spa 0) (hea 0) (2 ^ (wma 0) - 1)) (onS (2 ^ (wma 0) - 1)) wd (waysM cl (ai 0) (sna 0) x (hea 0) (fm 0)) d (wma 0)).2))] H → va_D A [(rr, eMod ad len kp uo tm em pc0), (ad 2, eArr cI 2 fm), (ad 3, eArr cI 8 pq), (ad 4, eArr cI 8 dq), (ad 5, eArr cI 8 kq), (ad 6, eArr cI 2 ai), (ad 13, eArr cI 4 sna), (ad 7, eArr cI 4 wma), (ad 8, eArr cI 32 be), (ad 9, eArr cI 32 va), (ad 10, eArr cI 32 lo), (ad 11, eArr cI 4 spa), (ad 12, eArr cI 4 hea), (ad 20, eArr cI 150 ((playM (hearM cl (fm 0) (ai 0) (sna 0) wd (wma 0) (spa 0) (hea 0) (2 ^ (wma 0) - 1)) (onS (2 ^ (wma 0) - 1)) wd (waysM cl (ai 0) (sna 0) x (hea 0) (fm 0)) d (wma 0)).1)), (ad 21, eArr cI 150 ((playM (hearM cl (fm 0) (ai 0) (sna 0) wd (wma 0) (spa 0) (hea 0) (2 ^ (wma 0) - 1)) (onS (2 ^ (wma 0) - 1)) wd (waysM cl (ai 0) (sna 0) x (hea 0) (fm 0)) d (wma 0)).2))] → va_S A s.heap H locs → ∀ ls : Array Slot, lv_has ls 5 [(4, .int (nI w2)), (3, .int (nI al)), (2, .int (nI d)), (0, .ref rr), (1, .int (nI x))] → W p l e (headSpec wsX7_second ({ frames := 4, cells := 0, slots := 0, locals := 98 })).room s m ([.ref rr, .int (nI x)] : List Value).toArray below meth c H locs 0 0 (MQ below (va_Qi (fun (r : Int32) ((lg', vg') : (Nat → Nat) × (Nat → Nat)) => r = (iI (-4))) (ctB D cI cC (fun ((lg', vg') : (Nat → Nat) × (Nat → Nat)) => [(rr, eMod ad len kp uo tm em pc0), (ad 2, eArr cI 2 fm), (ad 3, eArr cI 8 pq), (ad 4, eArr cI 8 dq), (ad 5, eArr cI 8 kq), (ad 6, eArr cI 2 ai), (ad 13, eArr cI 4 sna), (ad 7, eArr cI 4 wma), (ad 8, eArr cI 32 be), (ad 9, eArr cI 32 va), (ad 10, eArr cI 32 lo), (ad 11, eArr cI 4 spa), (ad 12, eArr cI 4 hea), (ad 20, eArr cI 150 lg'), (ad 21, eArr cI 150 vg')]) A) A) ([.ref rr, .int (nI x)] : List Value).toArray s 0 0 A) (F0 m 88 ls []) := by
                  intro nn88
                  induction nn88 with
                  | zero =>
                    intro w2 al hm15
                    exact absurd hm15 (Nat.not_lt_zero _)
                  | succ nn88 ih88 =>
                    intro w2 al hm15 hi16 hcase hi17 H locs hP hD hS ls hl
                    refine lv_iload hx hb dX7_second_88 (lv_at hl 0 rfl) ?_
                    refine lv_aload_n hx hb dX7_second_90 rfl (lv_at hl 3 rfl) ?_
                    refine va_get (D := D) (ci := 7) (v := .ref (ad 7)) (C := RX7) (T := TX7) (N := 28) hx hb hts inX7 hown hK hP 0 rfl rfl 7 (by decide) fl28 (fun _ h9 => h9) rfl dX7_second_91 ?_
                    refine lv_iconst (v := (nI 0)) hx hb dX7_second_94 (by decide) ?_
                    refine x_iald (A := A) hx hb hK hP 7 0 rfl rfl dX7_second_95 (by omega) (by omega) ?_
                    refine x_icmp_ge (tgt := 154) hx hb dX7_second_96 (by decide) (by omega) (by omega) (fun h18 => ?_) (fun h18 => ?_)
                    · have hsb : secB cl (fm 0) (ai 0) (sna 0) wd (wma 0) (spa 0) (hea 0) x  d = allB (fun w => hitM (playM (hearM cl (fm 0) (ai 0) (sna 0) wd (wma 0) (spa 0) (hea 0) (2 ^ (wma 0) - 1)) (onS (2 ^ (wma 0) - 1)) wd (waysM cl (ai 0) (sna 0) x (hea 0) (fm 0)) d (wma 0)) wd w 0 (absd (spa 0) (hea 0)) (ai 0 * absd (spa 0) (hea 0)) && hitM (playM (hearM cl (fm 0) (ai 0) (sna 0) wd (wma 0) (spa 0) (hea 0) (2 ^ (wma 0) - 1)) (onS (2 ^ (wma 0) - 1)) wd (waysM cl (ai 0) (sna 0) x (hea 0) (fm 0)) d (wma 0)) wd w d (absd x (hea 0)) (ai 0 * absd x (hea 0))) w2 := by rw [show w2 = wma 0 from by omega]; exact both_all hnw
                      rcases hcase with hc | hc
                      · rw [hc.1] at hl
                        have hsec : secB cl (fm 0) (ai 0) (sna 0) wd (wma 0) (spa 0) (hea 0) x  d = true := by rw [hsb]; exact hc.2
                        exact absurd hsec (by rw [hf d (by omega)]; decide)
                      · rw [hc.1] at hl
                        have hsec : secB cl (fm 0) (ai 0) (sna 0) wd (wma 0) (spa 0) (hea 0) x  d = false := by rw [hsb]; exact hc.2
                        refine lv_iload_n hx hb dX7_second_154 rfl (lv_at hl 1 rfl) ?_
                        refine x_if_eq (tgt := 160) hx hb dX7_second_155 (by decide) (by omega) (fun h19 => ?_) (fun h19 => False.elim (by omega))
                        refine lv_iinc (v := (nI (d + 1))) (lv' := [(2, .int (nI (d + 1))), (4, .int (nI w2)), (3, .int (nI 0)), (0, .ref rr), (1, .int (nI x))]) hx hb dX7_second_160 hl (k := 2) rfl (nI_inc _ 1) (by decide) rfl (fun ls hl => ?_)
                        refine lv_goto (tgt := 11) hx hb dX7_second_163 (by decide) ?_
                        exact ih11 (d + 1) ((playM (hearM cl (fm 0) (ai 0) (sna 0) wd (wma 0) (spa 0) (hea 0) (2 ^ (wma 0) - 1)) (onS (2 ^ (wma 0) - 1)) wd (waysM cl (ai 0) (sna 0) x (hea 0) (fm 0)) d (wma 0)).1) ((playM (hearM cl (fm 0) (ai 0) (sna 0) wd (wma 0) (spa 0) (hea 0) (2 ^ (wma 0) - 1)) (onS (2 ^ (wma 0) - 1)) wd (waysM cl (ai 0) (sna 0) x (hea 0) (fm 0)) d (wma 0)).2) (by omega) (by omega) _ _ (hP.sub [0, 1, 2, 3, 4, 5, 6, 7, 8, 9, 10, 11, 12, 13, 14] rfl) (hD.sub [0, 1, 2, 3, 4, 5, 6, 7, 8, 9, 10, 11, 12, 13, 14] rfl rfl) hS _ (lv_sub hl [0, 3, 4] rfl)
                    · refine lv_iload_n hx hb dX7_second_99 rfl (lv_at hl 1 rfl) ?_
                      refine x_if_eq (tgt := 146) hx hb dX7_second_100 (by decide) (by omega) (fun h20 => ?_) (fun h20 => ?_)
                      · refine lv_iconst (v := (nI 0)) hx hb dX7_second_146 (by decide) ?_
                        refine lv_istore_n (lv' := [(3, .int (nI 0)), (4, .int (nI w2)), (2, .int (nI d)), (0, .ref rr), (1, .int (nI x))]) hx hb dX7_second_147 rfl hl (by decide) rfl (fun ls hl => ?_)
                        refine lv_iinc (v := (nI (w2 + 1))) (lv' := [(4, .int (nI (w2 + 1))), (3, .int (nI 0)), (2, .int (nI d)), (0, .ref rr), (1, .int (nI x))]) hx hb dX7_second_148 hl (k := 1) rfl (nI_inc _ 1) (by decide) rfl (fun ls hl => ?_)
                        refine lv_goto (tgt := 88) hx hb dX7_second_151 (by decide) ?_
                        exact ih88 (w2 + 1) 0 (by omega) (by omega) (Or.inr ⟨rfl, (by rcases hcase with hc | hc; omega; show (_ && _) = false; rw [hc.2]; rfl)⟩) (by omega) _ _ (hP.sub [0, 1, 2, 3, 4, 5, 6, 7, 8, 9, 10, 11, 12, 13, 14] rfl) (hD.sub [0, 1, 2, 3, 4, 5, 6, 7, 8, 9, 10, 11, 12, 13, 14] rfl rfl) hS _ (lv_sub hl [0, 1, 2, 3, 4] rfl)
                      · refine lv_aload_n hx hb dX7_second_103 rfl (lv_at hl 3 rfl) ?_
                        refine lv_iload hx hb dX7_second_104 (lv_at hl 0 rfl) ?_
                        refine lv_aload_n hx hb dX7_second_106 rfl (lv_at hl 3 rfl) ?_
                        refine va_get (D := D) (ci := 7) (v := .ref (ad 11)) (C := RX7) (T := TX7) (N := 28) hx hb hts inX7 hown hK hP 0 rfl rfl 11 (by decide) fl40 (fun _ h9 => h9) rfl dX7_second_107 ?_
                        refine lv_iconst (v := (nI 0)) hx hb dX7_second_110 (by decide) ?_
                        refine x_iald (A := A) hx hb hK hP 11 0 rfl rfl dX7_second_111 (by omega) (by omega) ?_
                        refine lv_aload_n hx hb dX7_second_112 rfl (lv_at hl 3 rfl) ?_
                        refine va_get (D := D) (ci := 7) (v := .ref (ad 12)) (C := RX7) (T := TX7) (N := 28) hx hb hts inX7 hown hK hP 0 rfl rfl 12 (by decide) fl43 (fun _ h9 => h9) rfl dX7_second_113 ?_
                        refine lv_iconst (v := (nI 0)) hx hb dX7_second_116 (by decide) ?_
                        refine x_iald (A := A) hx hb hK hP 12 0 rfl rfl dX7_second_117 (by omega) (by omega) ?_
                        refine lv_iconst (v := (nI 0)) hx hb dX7_second_118 (by decide) ?_
                        refine k_V (q := (RX7, TX7, 28)) (ci := 7) (As := [.int (nI w2), .int (nI (spa 0)), .int (nI (hea 0)), .int (nI 0)]) (wr := [(ad 2, eArr cI 2 fm), (ad 3, eArr cI 8 pq), (ad 4, eArr cI 8 dq), (ad 5, eArr cI 8 kq), (ad 13, eArr cI 4 sna), (ad 7, eArr cI 4 wma), (ad 11, eArr cI 4 spa), (ad 12, eArr cI 4 hea), (ad 20, eArr cI 150 ((playM (hearM cl (fm 0) (ai 0) (sna 0) wd (wma 0) (spa 0) (hea 0) (2 ^ (wma 0) - 1)) (onS (2 ^ (wma 0) - 1)) wd (waysM cl (ai 0) (sna 0) x (hea 0) (fm 0)) d (wma 0)).1))]) ⟨hx, hb, hml, hown, hts⟩ (c_X7_isClear l D cI cC rr ad len kp uo tm em pc0 ai be va lo (playM (hearM cl (fm 0) (ai 0) (sna 0) wd (wma 0) (spa 0) (hea 0) (2 ^ (wma 0) - 1)) (onS (2 ^ (wma 0) - 1)) wd (waysM cl (ai 0) (sna 0) x (hea 0) (fm 0)) d (wma 0)) (wma 0) wd hrd hokd (by omega) hfm.2.1 w2 (spa 0) (hea 0) (by omega) 0 (by omega) (by omega) (okS_play (okS_play okS_quiet hokd _ (Nat.le_refl _)) hokd _ (Nat.le_refl _))) (cwV 4 hts gX7_second_X7_isClear rfl rfl rfl (by decide +kernel) ⟨Nat.le_of_ble_eq_true rfl, Nat.le_of_ble_eq_true rfl⟩) rfl hl.1 rfl (Nat.le_of_ble_eq_true rfl) dX7_second_119 ⟨Nat.zero_le _, Nat.zero_le _⟩ hN hK hP hD hS hA rfl (q0 := 0) rfl [0, 5, 8, 9, 10, 14] [1, 2, 3, 4, 6, 7, 11, 12, 13] rfl rfl ⟨rfl, rfl, by decide⟩ (fun r21 u H locs w22 hP hD hS => ?_)
                        obtain ⟨rfl, h23⟩ | ⟨rfl, h24⟩ : (r21 = (nI 1) ∧ hitM (playM (hearM cl (fm 0) (ai 0) (sna 0) wd (wma 0) (spa 0) (hea 0) (2 ^ (wma 0) - 1)) (onS (2 ^ (wma 0) - 1)) wd (waysM cl (ai 0) (sna 0) x (hea 0) (fm 0)) d (wma 0)) wd w2 0 (absd (spa 0) (hea 0)) (ai 0 * absd (spa 0) (hea 0)) = true) ∨ (r21 = (nI 0) ∧ hitM (playM (hearM cl (fm 0) (ai 0) (sna 0) wd (wma 0) (spa 0) (hea 0) (2 ^ (wma 0) - 1)) (onS (2 ^ (wma 0) - 1)) wd (waysM cl (ai 0) (sna 0) x (hea 0) (fm 0)) d (wma 0)) wd w2 0 (absd (spa 0) (hea 0)) (ai 0 * absd (spa 0) (hea 0)) = false) := w22
                        · refine x_if_eq (tgt := 146) hx hb dX7_second_122 (by decide) (by omega) (fun h25 => False.elim (by omega)) (fun h25 => ?_)
                          refine lv_aload_n hx hb dX7_second_125 rfl (lv_at hl 3 rfl) ?_
                          refine lv_iload hx hb dX7_second_126 (lv_at hl 0 rfl) ?_
                          refine lv_iload_n hx hb dX7_second_128 rfl (lv_at hl 4 rfl) ?_
                          refine lv_aload_n hx hb dX7_second_129 rfl (lv_at hl 3 rfl) ?_
                          refine va_get (D := D) (ci := 7) (v := .ref (ad 12)) (C := RX7) (T := TX7) (N := 28) hx hb hts inX7 hown hK hP 9 rfl rfl 12 (by decide) fl43 (fun _ h9 => h9) rfl dX7_second_130 ?_
                          refine lv_iconst (v := (nI 0)) hx hb dX7_second_133 (by decide) ?_
                          refine x_iald (A := A) hx hb hK hP 7 0 rfl rfl dX7_second_134 (by omega) (by omega) ?_
                          refine lv_iload_n hx hb dX7_second_135 rfl (lv_at hl 2 rfl) ?_
                          refine k_V (q := (RX7, TX7, 28)) (ci := 7) (As := [.int (nI w2), .int (nI x), .int (nI (hea 0)), .int (nI d)]) (wr := [(ad 2, eArr cI 2 fm), (ad 3, eArr cI 8 pq), (ad 4, eArr cI 8 dq), (ad 5, eArr cI 8 kq), (ad 13, eArr cI 4 sna), (ad 7, eArr cI 4 wma), (ad 11, eArr cI 4 spa), (ad 12, eArr cI 4 hea), (ad 20, eArr cI 150 ((playM (hearM cl (fm 0) (ai 0) (sna 0) wd (wma 0) (spa 0) (hea 0) (2 ^ (wma 0) - 1)) (onS (2 ^ (wma 0) - 1)) wd (waysM cl (ai 0) (sna 0) x (hea 0) (fm 0)) d (wma 0)).1))]) ⟨hx, hb, hml, hown, hts⟩ (c_X7_isClear l D cI cC rr ad len kp uo tm em pc0 ai be va lo (playM (hearM cl (fm 0) (ai 0) (sna 0) wd (wma 0) (spa 0) (hea 0) (2 ^ (wma 0) - 1)) (onS (2 ^ (wma 0) - 1)) wd (waysM cl (ai 0) (sna 0) x (hea 0) (fm 0)) d (wma 0)) (wma 0) wd hrd hokd (by omega) hfm.2.1 w2 x (hea 0) (by omega) d (by omega) (by omega) (okS_play (okS_play okS_quiet hokd _ (Nat.le_refl _)) hokd _ (Nat.le_refl _))) (cwV 4 hts gX7_second_X7_isClear rfl rfl rfl (by decide +kernel) ⟨Nat.le_of_ble_eq_true rfl, Nat.le_of_ble_eq_true rfl⟩) rfl hl.1 rfl (Nat.le_of_ble_eq_true rfl) dX7_second_136 ⟨Nat.zero_le _, Nat.zero_le _⟩ hN hK hP hD hS hA rfl (q0 := 9) rfl [9, 10, 11, 12, 13, 14] [0, 1, 2, 3, 4, 5, 6, 7, 8] rfl rfl ⟨rfl, rfl, by decide⟩ (fun r26 u H locs w27 hP hD hS => ?_)
                          obtain ⟨rfl, h28⟩ | ⟨rfl, h29⟩ : (r26 = (nI 1) ∧ hitM (playM (hearM cl (fm 0) (ai 0) (sna 0) wd (wma 0) (spa 0) (hea 0) (2 ^ (wma 0) - 1)) (onS (2 ^ (wma 0) - 1)) wd (waysM cl (ai 0) (sna 0) x (hea 0) (fm 0)) d (wma 0)) wd w2 d (absd x (hea 0)) (ai 0 * absd x (hea 0)) = true) ∨ (r26 = (nI 0) ∧ hitM (playM (hearM cl (fm 0) (ai 0) (sna 0) wd (wma 0) (spa 0) (hea 0) (2 ^ (wma 0) - 1)) (onS (2 ^ (wma 0) - 1)) wd (waysM cl (ai 0) (sna 0) x (hea 0) (fm 0)) d (wma 0)) wd w2 d (absd x (hea 0)) (ai 0 * absd x (hea 0)) = false) := w27
                          · refine x_if_eq (tgt := 146) hx hb dX7_second_139 (by decide) (by omega) (fun h30 => False.elim (by omega)) (fun h30 => ?_)
                            refine lv_iconst (v := (nI 1)) hx hb dX7_second_142 (by decide) ?_
                            refine lv_goto (tgt := 147) hx hb dX7_second_143 (by decide) ?_
                            refine lv_istore_n (lv' := [(3, .int (nI 1)), (4, .int (nI w2)), (2, .int (nI d)), (0, .ref rr), (1, .int (nI x))]) hx hb dX7_second_147 rfl hl (by decide) rfl (fun ls hl => ?_)
                            refine lv_iinc (v := (nI (w2 + 1))) (lv' := [(4, .int (nI (w2 + 1))), (3, .int (nI 1)), (2, .int (nI d)), (0, .ref rr), (1, .int (nI x))]) hx hb dX7_second_148 hl (k := 1) rfl (nI_inc _ 1) (by decide) rfl (fun ls hl => ?_)
                            refine lv_goto (tgt := 88) hx hb dX7_second_151 (by decide) ?_
                            exact ih88 (w2 + 1) 1 (by omega) (by omega) (Or.inl ⟨rfl, allB_s (p := (fun w => hitM (playM (hearM cl (fm 0) (ai 0) (sna 0) wd (wma 0) (spa 0) (hea 0) (2 ^ (wma 0) - 1)) (onS (2 ^ (wma 0) - 1)) wd (waysM cl (ai 0) (sna 0) x (hea 0) (fm 0)) d (wma 0)) wd w 0 (absd (spa 0) (hea 0)) (ai 0 * absd (spa 0) (hea 0)) && hitM (playM (hearM cl (fm 0) (ai 0) (sna 0) wd (wma 0) (spa 0) (hea 0) (2 ^ (wma 0) - 1)) (onS (2 ^ (wma 0) - 1)) wd (waysM cl (ai 0) (sna 0) x (hea 0) (fm 0)) d (wma 0)) wd w d (absd x (hea 0)) (ai 0 * absd x (hea 0)))) (by rcases hcase with hc | hc; exact hc.2; omega) (by show (_ && _) = true; rw [h23, h28]; rfl)⟩) (by omega) _ _ (hP.sub [9, 0, 1, 2, 3, 10, 4, 5, 11, 12, 13, 6, 7, 8, 14] rfl) (hD.sub [9, 0, 1, 2, 3, 10, 4, 5, 11, 12, 13, 6, 7, 8, 14] rfl rfl) hS _ (lv_sub hl [0, 1, 2, 3, 4] rfl)
                          · refine x_if_eq (tgt := 146) hx hb dX7_second_139 (by decide) (by omega) (fun h31 => ?_) (fun h31 => False.elim (by omega))
                            refine lv_iconst (v := (nI 0)) hx hb dX7_second_146 (by decide) ?_
                            refine lv_istore_n (lv' := [(3, .int (nI 0)), (4, .int (nI w2)), (2, .int (nI d)), (0, .ref rr), (1, .int (nI x))]) hx hb dX7_second_147 rfl hl (by decide) rfl (fun ls hl => ?_)
                            refine lv_iinc (v := (nI (w2 + 1))) (lv' := [(4, .int (nI (w2 + 1))), (3, .int (nI 0)), (2, .int (nI d)), (0, .ref rr), (1, .int (nI x))]) hx hb dX7_second_148 hl (k := 1) rfl (nI_inc _ 1) (by decide) rfl (fun ls hl => ?_)
                            refine lv_goto (tgt := 88) hx hb dX7_second_151 (by decide) ?_
                            exact ih88 (w2 + 1) 0 (by omega) (by omega) (Or.inr ⟨rfl, allB_f (p := (fun w => hitM (playM (hearM cl (fm 0) (ai 0) (sna 0) wd (wma 0) (spa 0) (hea 0) (2 ^ (wma 0) - 1)) (onS (2 ^ (wma 0) - 1)) wd (waysM cl (ai 0) (sna 0) x (hea 0) (fm 0)) d (wma 0)) wd w 0 (absd (spa 0) (hea 0)) (ai 0 * absd (spa 0) (hea 0)) && hitM (playM (hearM cl (fm 0) (ai 0) (sna 0) wd (wma 0) (spa 0) (hea 0) (2 ^ (wma 0) - 1)) (onS (2 ^ (wma 0) - 1)) wd (waysM cl (ai 0) (sna 0) x (hea 0) (fm 0)) d (wma 0)) wd w d (absd x (hea 0)) (ai 0 * absd x (hea 0)))) (i := w2) (by show (_ && _) = false; rw [h29, Bool.and_false]) (by omega)⟩) (by omega) _ _ (hP.sub [9, 0, 1, 2, 3, 10, 4, 5, 11, 12, 13, 6, 7, 8, 14] rfl) (hD.sub [9, 0, 1, 2, 3, 10, 4, 5, 11, 12, 13, 6, 7, 8, 14] rfl rfl) hS _ (lv_sub hl [0, 1, 2, 3, 4] rfl)
                        · refine x_if_eq (tgt := 146) hx hb dX7_second_122 (by decide) (by omega) (fun h32 => ?_) (fun h32 => False.elim (by omega))
                          refine lv_iconst (v := (nI 0)) hx hb dX7_second_146 (by decide) ?_
                          refine lv_istore_n (lv' := [(3, .int (nI 0)), (4, .int (nI w2)), (2, .int (nI d)), (0, .ref rr), (1, .int (nI x))]) hx hb dX7_second_147 rfl hl (by decide) rfl (fun ls hl => ?_)
                          refine lv_iinc (v := (nI (w2 + 1))) (lv' := [(4, .int (nI (w2 + 1))), (3, .int (nI 0)), (2, .int (nI d)), (0, .ref rr), (1, .int (nI x))]) hx hb dX7_second_148 hl (k := 1) rfl (nI_inc _ 1) (by decide) rfl (fun ls hl => ?_)
                          refine lv_goto (tgt := 88) hx hb dX7_second_151 (by decide) ?_
                          exact ih88 (w2 + 1) 0 (by omega) (by omega) (Or.inr ⟨rfl, allB_f (p := (fun w => hitM (playM (hearM cl (fm 0) (ai 0) (sna 0) wd (wma 0) (spa 0) (hea 0) (2 ^ (wma 0) - 1)) (onS (2 ^ (wma 0) - 1)) wd (waysM cl (ai 0) (sna 0) x (hea 0) (fm 0)) d (wma 0)) wd w 0 (absd (spa 0) (hea 0)) (ai 0 * absd (spa 0) (hea 0)) && hitM (playM (hearM cl (fm 0) (ai 0) (sna 0) wd (wma 0) (spa 0) (hea 0) (2 ^ (wma 0) - 1)) (onS (2 ^ (wma 0) - 1)) wd (waysM cl (ai 0) (sna 0) x (hea 0) (fm 0)) d (wma 0)) wd w d (absd x (hea 0)) (ai 0 * absd x (hea 0)))) (i := w2) (by show (_ && _) = false; rw [h24]; rfl) (by omega)⟩) (by omega) _ _ (hP.sub [9, 0, 1, 2, 3, 10, 4, 5, 11, 12, 13, 6, 7, 8, 14] rfl) (hD.sub [9, 0, 1, 2, 3, 10, 4, 5, 11, 12, 13, 6, 7, 8, 14] rfl rfl) hS _ (lv_sub hl [0, 1, 2, 3, 4] rfl)
                exact loop88 _ 0 1 (Nat.lt_succ_self _) (by omega) (Or.inl ⟨rfl, rfl⟩) (by omega) _ _ (hP.sub [0, 1, 2, 3, 4, 5, 6, 7, 8, 9, 10, 11, 12, 13, 14] rfl) (hD.sub [0, 1, 2, 3, 4, 5, 6, 7, 8, 9, 10, 11, 12, 13, 14] rfl rfl) hS _ (lv_sub hl [0, 1, 2, 3, 4] rfl)
              · obtain ⟨hr1, hr2, hr3⟩ := hrd w (by omega)
                obtain ⟨ho1, ho2, ho3, ho4, ho5⟩ := hokd w (by omega)
                have f33 : be w ≤ 30 := by omega
                have f34 : 1 ≤ va w := by omega
                have f35 : va w ≤ 7 := by omega
                have f36 : 1 ≤ lo w := by omega
                have f37 : lo w ≤ 60 := by omega
                refine lv_aload_n hx hb dX7_second_46 rfl (lv_at hl 2 rfl) ?_
                refine lv_iload_n hx hb dX7_second_47 rfl (lv_at hl 3 rfl) ?_
                refine lv_aload_n hx hb dX7_second_48 rfl (lv_at hl 2 rfl) ?_
                refine va_get (D := D) (ci := 7) (v := .ref (ad 8)) (C := RX7) (T := TX7) (N := 28) hx hb hts inX7 hown hK hP 0 rfl rfl 8 (by decide) fl31 (fun _ h9 => h9) rfl dX7_second_49 ?_
                refine lv_iload_n hx hb dX7_second_52 rfl (lv_at hl 0 rfl) ?_
                refine x_iald (A := A) hx hb hK hP 8 0 rfl rfl dX7_second_53 (by omega) (by omega) ?_
                refine lv_iload_n hx hb dX7_second_54 rfl (lv_at hl 1 rfl) ?_
                refine x_iadd hx hb dX7_second_55 ?_
                refine lv_aload_n hx hb dX7_second_56 rfl (lv_at hl 2 rfl) ?_
                refine va_get (D := D) (ci := 7) (v := .ref (ad 9)) (C := RX7) (T := TX7) (N := 28) hx hb hts inX7 hown hK hP 0 rfl rfl 9 (by decide) fl34 (fun _ h9 => h9) rfl dX7_second_57 ?_
                refine lv_iload_n hx hb dX7_second_60 rfl (lv_at hl 0 rfl) ?_
                refine x_iald (A := A) hx hb hK hP 9 0 rfl rfl dX7_second_61 (by omega) (by omega) ?_
                refine lv_aload_n hx hb dX7_second_62 rfl (lv_at hl 2 rfl) ?_
                refine va_get (D := D) (ci := 7) (v := .ref (ad 10)) (C := RX7) (T := TX7) (N := 28) hx hb hts inX7 hown hK hP 0 rfl rfl 10 (by decide) fl37 (fun _ h9 => h9) rfl dX7_second_63 ?_
                refine lv_iload_n hx hb dX7_second_66 rfl (lv_at hl 0 rfl) ?_
                refine x_iald (A := A) hx hb hK hP 10 0 rfl rfl dX7_second_67 (by omega) (by omega) ?_
                refine lv_aload_n hx hb dX7_second_68 rfl (lv_at hl 2 rfl) ?_
                refine va_get (D := D) (ci := 7) (v := .ref (ad 12)) (C := RX7) (T := TX7) (N := 28) hx hb hts inX7 hown hK hP 0 rfl rfl 12 (by decide) fl43 (fun _ h9 => h9) rfl dX7_second_69 ?_
                refine lv_iconst (v := (nI 0)) hx hb dX7_second_72 (by decide) ?_
                refine x_iald (A := A) hx hb hK hP 12 0 rfl rfl dX7_second_73 (by omega) (by omega) ?_
                refine k_Vv (q := (RX7, TX7, 28)) (ci := 7) (As := [.int (nI x), .int (nI (be w + d)), .int (nI (va w)), .int (nI (lo w)), .int (nI (hea 0))]) (wr := [(ad 7, eArr cI 4 wma), (ad 8, eArr cI 32 be), (ad 9, eArr cI 32 va), (ad 10, eArr cI 32 lo), (ad 11, eArr cI 4 spa), (ad 12, eArr cI 4 hea)]) ⟨hx, hb, hml, hown, hts⟩ (c_X7_say1 l D cI cC rr ad len kp uo tm em pc0 fm pq dq kq ai sna (playM (hearM cl (fm 0) (ai 0) (sna 0) wd (wma 0) (spa 0) (hea 0) (2 ^ (wma 0) - 1)) (fun _ => true) wd (waysM cl (ai 0) (sna 0) x (hea 0) (fm 0)) d w) cl hrc hok (by omega) x (be w + d) (va w) (lo w) (hea 0) ⟨by omega, by omega⟩ (by omega) (okS_play (okS_play okS_quiet hokd _ (Nat.le_refl _)) hokd w (by omega))) (cwV 5 hts gX7_second_X7_say1 rfl rfl rfl (by decide +kernel) ⟨Nat.le_of_ble_eq_true rfl, Nat.le_of_ble_eq_true rfl⟩) rfl hl.1 rfl (Nat.le_of_ble_eq_true rfl) dX7_second_74 ⟨Nat.zero_le _, Nat.zero_le _⟩ hN hK hP hD hS hA rfl (q0 := 0) rfl [0, 1, 2, 3, 4, 5, 6, 13, 14] [7, 8, 9, 10, 11, 12] rfl rfl ⟨rfl, rfl, by decide⟩ (fun u H locs w39 hP hD hS => ?_)
                refine lv_iinc (v := (nI (w + 1))) (lv' := [(3, .int (nI (w + 1))), (2, .int (nI d)), (0, .ref rr), (1, .int (nI x))]) hx hb dX7_second_77 hl (k := 0) rfl (nI_inc _ 1) (by decide) rfl (fun ls hl => ?_)
                refine lv_goto (tgt := 36) hx hb dX7_second_80 (by decide) ?_
                have hP : va_P D vwCl [(ad 7, eArr cI 4 wma), (ad 8, eArr cI 32 be), (ad 9, eArr cI 32 va), (ad 10, eArr cI 32 lo), (ad 11, eArr cI 4 spa), (ad 12, eArr cI 4 hea), (rr, eMod ad len kp uo tm em pc0), (ad 2, eArr cI 2 fm), (ad 3, eArr cI 8 pq), (ad 4, eArr cI 8 dq), (ad 5, eArr cI 8 kq), (ad 6, eArr cI 2 ai), (ad 13, eArr cI 4 sna), (ad 20, eArr cI 150 ((playM (hearM cl (fm 0) (ai 0) (sna 0) wd (wma 0) (spa 0) (hea 0) (2 ^ (wma 0) - 1)) (fun _ => true) wd (waysM cl (ai 0) (sna 0) x (hea 0) (fm 0)) d (w + 1)).1)), (ad 21, eArr cI 150 ((playM (hearM cl (fm 0) (ai 0) (sna 0) wd (wma 0) (spa 0) (hea 0) (2 ^ (wma 0) - 1)) (fun _ => true) wd (waysM cl (ai 0) (sna 0) x (hea 0) (fm 0)) d (w + 1)).2))] H := by rw [playM_t (on := fun _ => true) rfl, ← hr1, ← hr2, ← hr3]; exact hP
                have hD : va_D A [(ad 7, eArr cI 4 wma), (ad 8, eArr cI 32 be), (ad 9, eArr cI 32 va), (ad 10, eArr cI 32 lo), (ad 11, eArr cI 4 spa), (ad 12, eArr cI 4 hea), (rr, eMod ad len kp uo tm em pc0), (ad 2, eArr cI 2 fm), (ad 3, eArr cI 8 pq), (ad 4, eArr cI 8 dq), (ad 5, eArr cI 8 kq), (ad 6, eArr cI 2 ai), (ad 13, eArr cI 4 sna), (ad 20, eArr cI 150 ((playM (hearM cl (fm 0) (ai 0) (sna 0) wd (wma 0) (spa 0) (hea 0) (2 ^ (wma 0) - 1)) (fun _ => true) wd (waysM cl (ai 0) (sna 0) x (hea 0) (fm 0)) d (w + 1)).1)), (ad 21, eArr cI 150 ((playM (hearM cl (fm 0) (ai 0) (sna 0) wd (wma 0) (spa 0) (hea 0) (2 ^ (wma 0) - 1)) (fun _ => true) wd (waysM cl (ai 0) (sna 0) x (hea 0) (fm 0)) d (w + 1)).2))] := by rw [playM_t (on := fun _ => true) rfl, ← hr1, ← hr2, ← hr3]; exact hD
                exact ih36 (w + 1) (by omega) (by omega) _ _ (hP.sub [6, 7, 8, 9, 10, 11, 12, 0, 1, 2, 3, 4, 5, 13, 14] rfl) (hD.sub [6, 7, 8, 9, 10, 11, 12, 0, 1, 2, 3, 4, 5, 13, 14] rfl rfl) hS _ (lv_sub hl [0, 1, 2, 3] rfl)
          have hP : va_P D vwCl [(ad 11, eArr cI 4 spa), (ad 12, eArr cI 4 hea), (rr, eMod ad len kp uo tm em pc0), (ad 2, eArr cI 2 fm), (ad 3, eArr cI 8 pq), (ad 4, eArr cI 8 dq), (ad 5, eArr cI 8 kq), (ad 6, eArr cI 2 ai), (ad 13, eArr cI 4 sna), (ad 7, eArr cI 4 wma), (ad 8, eArr cI 32 be), (ad 9, eArr cI 32 va), (ad 10, eArr cI 32 lo), (ad 20, eArr cI 150 ((playM (hearM cl (fm 0) (ai 0) (sna 0) wd (wma 0) (spa 0) (hea 0) (2 ^ (wma 0) - 1)) (fun _ => true) wd (waysM cl (ai 0) (sna 0) x (hea 0) (fm 0)) d 0).1)), (ad 21, eArr cI 150 ((playM (hearM cl (fm 0) (ai 0) (sna 0) wd (wma 0) (spa 0) (hea 0) (2 ^ (wma 0) - 1)) (fun _ => true) wd (waysM cl (ai 0) (sna 0) x (hea 0) (fm 0)) d 0).2))] H := by rw [show playM (hearM cl (fm 0) (ai 0) (sna 0) wd (wma 0) (spa 0) (hea 0) (2 ^ (wma 0) - 1)) (fun _ => true) wd (waysM cl (ai 0) (sna 0) x (hea 0) (fm 0)) d 0 = hearM cl (fm 0) (ai 0) (sna 0) wd (wma 0) (spa 0) (hea 0) (2 ^ (wma 0) - 1) from rfl, show 2 ^ (wma 0) - 1 = 2 ^ (wma 0) - 1 - 0 from rfl]; exact hP
          have hD : va_D A [(ad 11, eArr cI 4 spa), (ad 12, eArr cI 4 hea), (rr, eMod ad len kp uo tm em pc0), (ad 2, eArr cI 2 fm), (ad 3, eArr cI 8 pq), (ad 4, eArr cI 8 dq), (ad 5, eArr cI 8 kq), (ad 6, eArr cI 2 ai), (ad 13, eArr cI 4 sna), (ad 7, eArr cI 4 wma), (ad 8, eArr cI 32 be), (ad 9, eArr cI 32 va), (ad 10, eArr cI 32 lo), (ad 20, eArr cI 150 ((playM (hearM cl (fm 0) (ai 0) (sna 0) wd (wma 0) (spa 0) (hea 0) (2 ^ (wma 0) - 1)) (fun _ => true) wd (waysM cl (ai 0) (sna 0) x (hea 0) (fm 0)) d 0).1)), (ad 21, eArr cI 150 ((playM (hearM cl (fm 0) (ai 0) (sna 0) wd (wma 0) (spa 0) (hea 0) (2 ^ (wma 0) - 1)) (fun _ => true) wd (waysM cl (ai 0) (sna 0) x (hea 0) (fm 0)) d 0).2))] := by rw [show playM (hearM cl (fm 0) (ai 0) (sna 0) wd (wma 0) (spa 0) (hea 0) (2 ^ (wma 0) - 1)) (fun _ => true) wd (waysM cl (ai 0) (sna 0) x (hea 0) (fm 0)) d 0 = hearM cl (fm 0) (ai 0) (sna 0) wd (wma 0) (spa 0) (hea 0) (2 ^ (wma 0) - 1) from rfl, show 2 ^ (wma 0) - 1 = 2 ^ (wma 0) - 1 - 0 from rfl]; exact hD
          exact loop36 _ 0 (Nat.lt_succ_self _) (by omega) _ _ (hP.sub [2, 3, 4, 5, 6, 7, 8, 9, 10, 11, 12, 0, 1, 13, 14] rfl) (hD.sub [2, 3, 4, 5, 6, 7, 8, 9, 10, 11, 12, 0, 1, 13, 14] rfl rfl) hS _ (lv_sub hl [0, 1, 2, 3] rfl)
    exact loop11 _ 0 lg vg (Nat.lt_succ_self _) (by omega) _ _ (hP.sub [0, 1, 2, 3, 4, 5, 6, 7, 8, 9, 10, 11, 12, 13, 14] rfl) (hD.sub [0, 1, 2, 3, 4, 5, 6, 7, 8, 9, 10, 11, 12, 13, 14] rfl rfl) hS _ (lv_sub hl [0, 1, 2] rfl)
  · exact False.elim (by omega)
