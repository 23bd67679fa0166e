def onN (wo w : Nat) : Bool := !onS wo w
theorem onN_t {wo w : Nat} (h : ¬ wo / 2 ^ w % 2 = 1) : onN wo w = true := by unfold onN; rw [onS_f h]; rfl
theorem onN_f {wo w : Nat} (h : wo / 2 ^ w % 2 = 1) : onN wo w = false := by unfold onN; rw [onS_t h]; rfl
theorem playM_on {on on' : Nat → Bool} {nw : Nat} (h : ∀ w, w < nw → on w = on' w) (S : Snd) (wd : Nat → Nat) (L : List (Nat × Nat)) (d : Nat) : ∀ n, n ≤ nw → playM S on wd L d n = playM S on' wd L d n := by
  intro n
  induction n with
  | zero => intro _; rfl
  | succ w ih =>
    intro hw
    show (if on w then _ else _) = (if on' w then _ else _)
    rw [ih (by omega), h w (by omega)]
set_option maxRecDepth 100000 in
theorem onS_comp_all : ∀ n, n < 9 → ∀ k, k < 2 ^ n → ∀ w, w < n → onN k w = onS (2 ^ n - 1 - k) w := by decide +kernel
theorem hear_of {cl : Nat → Nat} {nc air sn : Nat} {wd : Nat → Nat} {nw x y wo : Nat} (hn : nw ≤ 8) (hw : wo < 2 ^ nw) : playM quietM (onN wo) wd (waysM cl air sn x y nc) 0 nw = hearM cl nc air sn wd nw x y (2 ^ nw - 1 - wo) :=
  playM_on (fun w h => onS_comp_all nw (by omega) wo hw w h) quietM wd _ 0 nw (Nat.le_refl nw)
theorem onS_all {n w : Nat} (hn : n ≤ 8) (hw : w < n) : onS (2 ^ n - 1) w = true := by
  have h := onS_comp_all n (by omega) 0 (Nat.two_pow_pos n) w hw
  rw [Nat.sub_zero] at h
  rw [← h]
  exact onN_t (by rw [Nat.zero_div]; decide)
def hitS (S : Snd) (wd : Nat → Nat) (d y z nw : Nat) : Nat := bitsM (fun w => hitM S wd w d y z) nw
theorem clr_of {cl : Nat → Nat} {nc air sn : Nat} {wd : Nat → Nat} {nw x y : Nat} (hn : nw ≤ 8) : hitS (hearM cl nc air sn wd nw x y (2 ^ nw - 1)) wd 0 (absd x y) (air * absd x y) nw = clrM cl nc air sn wd nw x y (2 ^ nw - 1) :=
  bitsM_congr (fun w hw => by (try dsimp only); rw [onS_all hn hw]; rfl)
theorem hitS_t {S : Snd} {wd : Nat → Nat} {d y z w : Nat} (h : hitM S wd w d y z = true) : hitS S wd d y z (w + 1) = hitS S wd d y z w + 2 ^ w := bitsM_t (c := fun w => hitM S wd w d y z) h
theorem hitS_f {S : Snd} {wd : Nat → Nat} {d y z w : Nat} (h : hitM S wd w d y z = false) : hitS S wd d y z (w + 1) = hitS S wd d y z w := bitsM_f (c := fun w => hitM S wd w d y z) h
theorem hitS_lt (S : Snd) (wd : Nat → Nat) (d y z n : Nat) : hitS S wd d y z n < 2 ^ n := bitsM_lt _ n

set_option maxRecDepth 100000 in
set_option maxHeartbeats 4000000 in
theorem c_X7_sayAll (l : Launch) (D : va_G) (cI cC : ClassId) (rr : Nat) (ad : Nat → Nat) (len : Nat) (kp : Nat) (uo : Nat) (tm : Nat) (em : Nat) (pc0 : Nat) (fm : Nat → Nat) (pq : Nat → Nat) (dq : Nat → Nat) (kq : Nat → Nat) (ai : Nat → Nat) (sna : Nat → Nat) (wma : Nat → Nat) (be : Nat → Nat) (va : Nat → Nat) (lo : Nat → Nat) (cl : Nat → Nat) (hrc : relC pq dq kq cl (fm 0)) (hok : okC cl (fm 0)) (hfm : fm 0 ≤ 4 ∧ ai 0 ≤ 99 ∧ sna 0 < 2147483648) (wd : Nat → Nat) (hrd : relD be va lo wd (wma 0)) (hokd : okD wd (wma 0)) (hnw : wma 0 ≤ 8) (x : Nat) (y : Nat) (hxy : x ≤ 40 ∧ y ≤ 40) (wo : Nat) (hwo : wo < 2 ^ (wma 0)) (lg : Nat → Nat) (vg : Nat → Nat) : mtV l D cI cC yX7_sayAll wsX7_sayAll ({ frames := 3, cells := 0, slots := 0, locals := 74 }) [.ref rr, .int (nI x), .int (nI y), .int (nI wo)] [(rr, eMod ad len kp uo tm em pc0), (ad 2, eArr cI 2 fm), (ad 3, eArr cI 8 pq), (ad 4, eArr cI 8 dq), (ad 5, eArr cI 8 kq), (ad 6, eArr cI 2 ai), (ad 13, eArr cI 4 sna), (ad 7, eArr cI 4 wma), (ad 8, eArr cI 32 be), (ad 9, eArr cI 32 va), (ad 10, eArr cI 32 lo), (ad 20, eArr cI 150 lg), (ad 21, eArr cI 150 vg)] (fun (_ : Unit) => True) (fun (_ : Unit) => [(rr, eMod ad len kp uo tm em pc0), (ad 2, eArr cI 2 fm), (ad 3, eArr cI 8 pq), (ad 4, eArr cI 8 dq), (ad 5, eArr cI 8 kq), (ad 6, eArr cI 2 ai), (ad 13, eArr cI 4 sna), (ad 7, eArr cI 4 wma), (ad 8, eArr cI 32 be), (ad 9, eArr cI 32 va), (ad 10, eArr cI 32 lo), (ad 20, eArr cI 150 ((hearM cl (fm 0) (ai 0) (sna 0) wd (wma 0) x y (2 ^ (wma 0) - 1 - wo)).1)), (ad 21, eArr cI 150 ((hearM cl (fm 0) (ai 0) (sna 0) wd (wma 0) x y (2 ^ (wma 0) - 1 - wo)).2))]) := by
  refine mtV_of (cc := cX7_sayAll) (maxL := 5) (ret := none) (by decide) rfl rfl ?_
  intro p e s m below meth c A hx hb hml hr hts hown hlocks hN hA hK hP hD hS ls hl
  have hown : s.vm.findClass RX7 = some m.cls := hown
  have hl : lv_has ls 5 [(0, .ref rr), (1, .int (nI x)), (2, .int (nI y)), (3, .int (nI wo))] := hl
  obtain ⟨H, hHe⟩ : ∃ H, H = s.heap := ⟨_, rfl⟩
  rw [← hHe] at hP ⊢
  have hS : va_S A s.heap H [] := by rw [hHe]; exact va_S.rf
  have fl28 := hts (.fieldLink RX7 28 "EchoPaysRentModel" "wordMany" "[I") (by decide +kernel)
  have inX7 : ∀ w ∈ wsX70, w ∈ wsX7_sayAll := by decide +kernel
  have fl31 := hts (.fieldLink RX7 31 "EchoPaysRentModel" "beats" "[I") (by decide +kernel)
  have fl34 := hts (.fieldLink RX7 34 "EchoPaysRentModel" "values" "[I") (by decide +kernel)
  have fl37 := hts (.fieldLink RX7 37 "EchoPaysRentModel" "louds" "[I") (by decide +kernel)
  have hp8 := pow8 hnw
  have hwo2 : wo < 2147483648 := by omega
  refine lv_aload_n hx hb dX7_sayAll_0 rfl (lv_at hl 0 rfl) ?_
  refine k_Vv (q := (RX7, TX7, 28)) (ci := 7) (As := []) (wr := [(ad 2, eArr cI 2 fm), (ad 3, eArr cI 8 pq), (ad 4, eArr cI 8 dq), (ad 5, eArr cI 8 kq), (ad 6, eArr cI 2 ai), (ad 13, eArr cI 4 sna), (ad 7, eArr cI 4 wma), (ad 8, eArr cI 32 be), (ad 9, eArr cI 32 va), (ad 10, eArr cI 32 lo)]) ⟨hx, hb, hml, hown, hts⟩ (c_X7_quiet l D cI cC rr ad len kp uo tm em pc0 lg vg) (cwV 0 hts gX7_sayAll_X7_quiet rfl rfl rfl (by decide +kernel) ⟨Nat.le_of_ble_eq_true rfl, Nat.le_of_ble_eq_true rfl⟩) rfl hl.1 rfl (Nat.le_of_ble_eq_true rfl) dX7_sayAll_1 ⟨Nat.zero_le _, Nat.zero_le _⟩ hN hK hP hD hS hA rfl (q0 := 0) rfl [0, 11, 12] [1, 2, 3, 4, 5, 6, 7, 8, 9, 10] rfl rfl ⟨rfl, rfl, by decide⟩ (fun u H locs w2 hP hD hS => ?_)
  refine lv_iconst (v := (nI 0)) hx hb dX7_sayAll_4 (by decide) ?_
  refine lv_istore (lv' := [(4, .int (nI 0)), (0, .ref rr), (1, .int (nI x)), (2, .int (nI y)), (3, .int (nI wo))]) hx hb dX7_sayAll_5 hl (by decide) rfl (fun ls hl => ?_)
  have loop7 : ∀ (nn7 : Nat) (w : Nat), wma 0 - w < nn7 → (w ≤ wma 0) → ∀ (H : Heap) (locs : List Loc), va_P D vwCl [(rr, eMod ad len kp uo tm em pc0), (ad 2, eArr cI 2 fm), (ad 3, eArr cI 8 pq), (ad 4, eArr cI 8 dq), (ad 5, eArr cI 8 kq), (ad 6, eArr cI 2 ai), (ad 13, eArr cI 4 sna), (ad 7, eArr cI 4 wma), (ad 8, eArr cI 32 be), (ad 9, eArr cI 32 va), (ad 10, eArr cI 32 lo), (ad 20, eArr cI 150 ((playM quietM (onN wo) wd (waysM cl (ai 0) (sna 0) x y (fm 0)) 0 w).1)), (ad 21, eArr cI 150 ((playM quietM (onN wo) wd (waysM cl (ai 0) (sna 0) x y (fm 0)) 0 w).2))] H → va_D A [(rr, eMod ad len kp uo tm em pc0), (ad 2, eArr cI 2 fm), (ad 3, eArr cI 8 pq), (ad 4, eArr cI 8 dq), (ad 5, eArr cI 8 kq), (ad 6, eArr cI 2 ai), (ad 13, eArr cI 4 sna), (ad 7, eArr cI 4 wma), (ad 8, eArr cI 32 be), (ad 9, eArr cI 32 va), (ad 10, eArr cI 32 lo), (ad 20, eArr cI 150 ((playM quietM (onN wo) wd (waysM cl (ai 0) (sna 0) x y (fm 0)) 0 w).1)), (ad 21, eArr cI 150 ((playM quietM (onN wo) wd (waysM cl (ai 0) (sna 0) x y (fm 0)) 0 w).2))] → va_S A s.heap H locs → ∀ ls : Array Slot, lv_has ls 5 [(4, .int (nI w)), (0, .ref rr), (1, .int (nI x)), (2, .int (nI y)), (3, .int (nI wo))] → W p l e (headSpec wsX7_sayAll ({ frames := 3, cells := 0, slots := 0, locals := 74 })).room s m ([.ref rr, .int (nI x), .int (nI y), .int (nI wo)] : List Value).toArray below meth c H locs 0 0 (MQ below (va_Qv (fun (_ : Unit) => True) (ctB D cI cC (fun (_ : Unit) => [(rr, eMod ad len kp uo tm em pc0), (ad 2, eArr cI 2 fm), (ad 3, eArr cI 8 pq), (ad 4, eArr cI 8 dq), (ad 5, eArr cI 8 kq), (ad 6, eArr cI 2 ai), (ad 13, eArr cI 4 sna), (ad 7, eArr cI 4 wma), (ad 8, eArr cI 32 be), (ad 9, eArr cI 32 va), (ad 10, eArr cI 32 lo), (ad 20, eArr cI 150 ((hearM cl (fm 0) (ai 0) (sna 0) wd (wma 0) x y (2 ^ (wma 0) - 1 - wo)).1)), (ad 21, eArr cI 150 ((hearM cl (fm 0) (ai 0) (sna 0) wd (wma 0) x y (2 ^ (wma 0) - 1 - wo)).2))]) A) A) ([.ref rr, .int (nI x), .int (nI y), .int (nI wo)] : List Value).toArray s 0 0 A) (F0 m 7 ls []) := by
    intro nn7
    induction nn7 with
    | zero =>
      intro w hm3
      exact absurd hm3 (Nat.not_lt_zero _)
    | succ nn7 ih7 =>
      intro w hm3 hi4 H locs hP hD hS ls hl
      refine lv_iload hx hb dX7_sayAll_7 (lv_at hl 0 rfl) ?_
      refine lv_aload_n hx hb dX7_sayAll_9 rfl (lv_at hl 1 rfl) ?_
      refine va_get (D := D) (ci := 7) (v := .ref (ad 7)) (C := RX7) (T := TX7) (N := 28) hx hb hts inX7 hown hK hP 0 rfl rfl 7 (by decide) fl28 (fun _ h9 => h9) rfl dX7_sayAll_10 ?_
      refine lv_iconst (v := (nI 0)) hx hb dX7_sayAll_13 (by decide) ?_
      refine x_iald (A := A) hx hb hK hP 7 0 rfl rfl dX7_sayAll_14 (by omega) (by omega) ?_
      refine x_icmp_ge (tgt := 60) hx hb dX7_sayAll_15 (by decide) (by omega) (by omega) (fun h5 => ?_) (fun h5 => ?_)
      · have ew : w = wma 0 := by omega
        have hP : va_P D vwCl [(rr, eMod ad len kp uo tm em pc0), (ad 2, eArr cI 2 fm), (ad 3, eArr cI 8 pq), (ad 4, eArr cI 8 dq), (ad 5, eArr cI 8 kq), (ad 6, eArr cI 2 ai), (ad 13, eArr cI 4 sna), (ad 7, eArr cI 4 wma), (ad 8, eArr cI 32 be), (ad 9, eArr cI 32 va), (ad 10, eArr cI 32 lo), (ad 20, eArr cI 150 ((hearM cl (fm 0) (ai 0) (sna 0) wd (wma 0) x y (2 ^ (wma 0) - 1 - wo)).1)), (ad 21, eArr cI 150 ((hearM cl (fm 0) (ai 0) (sna 0) wd (wma 0) x y (2 ^ (wma 0) - 1 - wo)).2))] H := by rw [← hear_of hnw hwo, ← ew]; exact hP
        have hD : va_D A [(rr, eMod ad len kp uo tm em pc0), (ad 2, eArr cI 2 fm), (ad 3, eArr cI 8 pq), (ad 4, eArr cI 8 dq), (ad 5, eArr cI 8 kq), (ad 6, eArr cI 2 ai), (ad 13, eArr cI 4 sna), (ad 7, eArr cI 4 wma), (ad 8, eArr cI 32 be), (ad 9, eArr cI 32 va), (ad 10, eArr cI 32 lo), (ad 20, eArr cI 150 ((hearM cl (fm 0) (ai 0) (sna 0) wd (wma 0) x y (2 ^ (wma 0) - 1 - wo)).1)), (ad 21, eArr cI 150 ((hearM cl (fm 0) (ai 0) (sna 0) wd (wma 0) x y (2 ^ (wma 0) - 1 - wo)).2))] := by rw [← hear_of hnw hwo, ← ew]; exact hD
        exact x_vret hx hb hr hlocks dX7_sayAll_60 (post := fun (_ : Unit) => True) (w1 := fun (_ : Unit) => [(rr, eMod ad len kp uo tm em pc0), (ad 2, eArr cI 2 fm), (ad 3, eArr cI 8 pq), (ad 4, eArr cI 8 dq), (ad 5, eArr cI 8 kq), (ad 6, eArr cI 2 ai), (ad 13, eArr cI 4 sna), (ad 7, eArr cI 4 wma), (ad 8, eArr cI 32 be), (ad 9, eArr cI 32 va), (ad 10, eArr cI 32 lo), (ad 20, eArr cI 150 ((hearM cl (fm 0) (ai 0) (sna 0) wd (wma 0) x y (2 ^ (wma 0) - 1 - wo)).1)), (ad 21, eArr cI 150 ((hearM cl (fm 0) (ai 0) (sna 0) wd (wma 0) x y (2 ^ (wma 0) - 1 - wo)).2))]) () trivial hK hP hD hS
      · refine lv_iload_n hx hb dX7_sayAll_18 rfl (lv_at hl 4 rfl) ?_
        refine lv_iload hx hb dX7_sayAll_19 (lv_at hl 0 rfl) ?_
        refine k_S (As := [.int (nI wo), .int (nI w)]) (wr := [(rr, eMod ad len kp uo tm em pc0), (ad 2, eArr cI 2 fm), (ad 3, eArr cI 8 pq), (ad 4, eArr cI 8 dq), (ad 5, eArr cI 8 kq), (ad 6, eArr cI 2 ai), (ad 13, eArr cI 4 sna), (ad 7, eArr cI 4 wma), (ad 8, eArr cI 32 be), (ad 9, eArr cI 32 va), (ad 10, eArr cI 32 lo), (ad 20, eArr cI 150 ((playM quietM (onN wo) wd (waysM cl (ai 0) (sna 0) x y (fm 0)) 0 w).1)), (ad 21, eArr cI 150 ((playM quietM (onN wo) wd (waysM cl (ai 0) (sna 0) x y (fm 0)) 0 w).2))]) ⟨hx, hb, hml, hown, hts⟩ (c_X7_has l D cI cC wo w (by omega) (by omega)) (cwS 2 hts gX7_sayAll_X7_has rfl rfl rfl (by decide +kernel) ⟨Nat.le_of_ble_eq_true rfl, Nat.le_of_ble_eq_true rfl⟩) rfl hl.1 rfl (Nat.le_of_ble_eq_true rfl) dX7_sayAll_21 ⟨Nat.zero_le _, Nat.zero_le _⟩ hN hK hP hD hS hA [] [0, 1, 2, 3, 4, 5, 6, 7, 8, 9, 10, 11, 12] rfl rfl ⟨rfl, rfl, by decide⟩ (fun r6 u H locs w7 hP hD hS => ?_)
        obtain ⟨rfl, h8⟩ | ⟨rfl, h9⟩ : (r6 = (nI 1) ∧ wo / 2 ^ w % 2 = 1) ∨ (r6 = (nI 0) ∧ ¬ wo / 2 ^ w % 2 = 1) := w7
        · refine x_if_ne (tgt := 54) hx hb dX7_sayAll_24 (by decide) (by omega) (fun h10 => ?_) (fun h10 => False.elim (by omega))
          refine lv_iinc (v := (nI (w + 1))) (lv' := [(4, .int (nI (w + 1))), (0, .ref rr), (1, .int (nI x)), (2, .int (nI y)), (3, .int (nI wo))]) hx hb dX7_sayAll_54 hl (k := 0) rfl (nI_inc _ 1) (by decide) rfl (fun ls hl => ?_)
          refine lv_goto (tgt := 7) hx hb dX7_sayAll_57 (by decide) ?_
          have hP : va_P D vwCl [(rr, eMod ad len kp uo tm em pc0), (ad 2, eArr cI 2 fm), (ad 3, eArr cI 8 pq), (ad 4, eArr cI 8 dq), (ad 5, eArr cI 8 kq), (ad 6, eArr cI 2 ai), (ad 13, eArr cI 4 sna), (ad 7, eArr cI 4 wma), (ad 8, eArr cI 32 be), (ad 9, eArr cI 32 va), (ad 10, eArr cI 32 lo), (ad 20, eArr cI 150 ((playM quietM (onN wo) wd (waysM cl (ai 0) (sna 0) x y (fm 0)) 0 (w + 1)).1)), (ad 21, eArr cI 150 ((playM quietM (onN wo) wd (waysM cl (ai 0) (sna 0) x y (fm 0)) 0 (w + 1)).2))] H := by rw [playM_f (onN_f h8)]; exact hP
          have hD : va_D A [(rr, eMod ad len kp uo tm em pc0), (ad 2, eArr cI 2 fm), (ad 3, eArr cI 8 pq), (ad 4, eArr cI 8 dq), (ad 5, eArr cI 8 kq), (ad 6, eArr cI 2 ai), (ad 13, eArr cI 4 sna), (ad 7, eArr cI 4 wma), (ad 8, eArr cI 32 be), (ad 9, eArr cI 32 va), (ad 10, eArr cI 32 lo), (ad 20, eArr cI 150 ((playM quietM (onN wo) wd (waysM cl (ai 0) (sna 0) x y (fm 0)) 0 (w + 1)).1)), (ad 21, eArr cI 150 ((playM quietM (onN wo) wd (waysM cl (ai 0) (sna 0) x y (fm 0)) 0 (w + 1)).2))] := by rw [playM_f (onN_f h8)]; exact hD
          exact ih7 (w + 1) (by omega) (by omega) _ _ (hP.sub [0, 1, 2, 3, 4, 5, 6, 7, 8, 9, 10, 11, 12] rfl) (hD.sub [0, 1, 2, 3, 4, 5, 6, 7, 8, 9, 10, 11, 12] rfl rfl) hS _ (lv_sub hl [0, 1, 2, 3, 4] rfl)
        · refine x_if_ne (tgt := 54) hx hb dX7_sayAll_24 (by decide) (by omega) (fun h11 => False.elim (by omega)) (fun h11 => ?_)
          obtain ⟨hr1, hr2, hr3⟩ := hrd w (by omega)
          obtain ⟨ho1, ho2, ho3, ho4, ho5⟩ := hokd w (by omega)
          have f12 : be w ≤ 30 := by omega
          have f13 : 1 ≤ va w := by omega
          have f14 : va w ≤ 7 := by omega
          have f15 : 1 ≤ lo w := by omega
          have f16 : lo w ≤ 60 := by omega
          refine lv_aload_n hx hb dX7_sayAll_27 rfl (lv_at hl 1 rfl) ?_
          refine lv_iload_n hx hb dX7_sayAll_28 rfl (lv_at hl 2 rfl) ?_
          refine lv_aload_n hx hb dX7_sayAll_29 rfl (lv_at hl 1 rfl) ?_
          refine va_get (D := D) (ci := 7) (v := .ref (ad 8)) (C := RX7) (T := TX7) (N := 28) hx hb hts inX7 hown hK hP 0 rfl rfl 8 (by decide) fl31 (fun _ h9 => h9) rfl dX7_sayAll_30 ?_
          refine lv_iload hx hb dX7_sayAll_33 (lv_at hl 0 rfl) ?_
          refine x_iald (A := A) hx hb hK hP 8 0 rfl rfl dX7_sayAll_35 (by omega) (by omega) ?_
          refine lv_aload_n hx hb dX7_sayAll_36 rfl (lv_at hl 1 rfl) ?_
          refine va_get (D := D) (ci := 7) (v := .ref (ad 9)) (C := RX7) (T := TX7) (N := 28) hx hb hts inX7 hown hK hP 0 rfl rfl 9 (by decide) fl34 (fun _ h9 => h9) rfl dX7_sayAll_37 ?_
          refine lv_iload hx hb dX7_sayAll_40 (lv_at hl 0 rfl) ?_
          refine x_iald (A := A) hx hb hK hP 9 0 rfl rfl dX7_sayAll_42 (by omega) (by omega) ?_
          refine lv_aload_n hx hb dX7_sayAll_43 rfl (lv_at hl 1 rfl) ?_
          refine va_get (D := D) (ci := 7) (v := .ref (ad 10)) (C := RX7) (T := TX7) (N := 28) hx hb hts inX7 hown hK hP 0 rfl rfl 10 (by decide) fl37 (fun _ h9 => h9) rfl dX7_sayAll_44 ?_
          refine lv_iload hx hb dX7_sayAll_47 (lv_at hl 0 rfl) ?_
          refine x_iald (A := A) hx hb hK hP 10 0 rfl rfl dX7_sayAll_49 (by omega) (by omega) ?_
          refine lv_iload_n hx hb dX7_sayAll_50 rfl (lv_at hl 3 rfl) ?_
          refine k_Vv (q := (RX7, TX7, 28)) (ci := 7) (As := [.int (nI x), .int (nI (be w)), .int (nI (va w)), .int (nI (lo w)), .int (nI y)]) (wr := [(ad 7, eArr cI 4 wma), (ad 8, eArr cI 32 be), (ad 9, eArr cI 32 va), (ad 10, eArr cI 32 lo)]) ⟨hx, hb, hml, hown, hts⟩ (c_X7_say1 l D cI cC rr ad len kp uo tm em pc0 fm pq dq kq ai sna (playM quietM (onN wo) wd (waysM cl (ai 0) (sna 0) x y (fm 0)) 0 w) cl hrc hok (by omega) x (be w) (va w) (lo w) y (by omega) (by omega) (okS_play okS_quiet hokd w (by omega))) (cwV 5 hts gX7_sayAll_X7_say1 rfl rfl rfl (by decide +kernel) ⟨Nat.le_of_ble_eq_true rfl, Nat.le_of_ble_eq_true rfl⟩) rfl hl.1 rfl (Nat.le_of_ble_eq_true rfl) dX7_sayAll_51 ⟨Nat.zero_le _, Nat.zero_le _⟩ hN hK hP hD hS hA rfl (q0 := 0) rfl [0, 1, 2, 3, 4, 5, 6, 11, 12] [7, 8, 9, 10] rfl rfl ⟨rfl, rfl, by decide⟩ (fun u H locs w18 hP hD hS => ?_)
          refine lv_iinc (v := (nI (w + 1))) (lv' := [(4, .int (nI (w + 1))), (0, .ref rr), (1, .int (nI x)), (2, .int (nI y)), (3, .int (nI wo))]) hx hb dX7_sayAll_54 hl (k := 0) rfl (nI_inc _ 1) (by decide) rfl (fun ls hl => ?_)
          refine lv_goto (tgt := 7) hx hb dX7_sayAll_57 (by decide) ?_
          have hP : va_P D vwCl [(ad 7, eArr cI 4 wma), (ad 8, eArr cI 32 be), (ad 9, eArr cI 32 va), (ad 10, eArr cI 32 lo), (rr, eMod ad len kp uo tm em pc0), (ad 2, eArr cI 2 fm), (ad 3, eArr cI 8 pq), (ad 4, eArr cI 8 dq), (ad 5, eArr cI 8 kq), (ad 6, eArr cI 2 ai), (ad 13, eArr cI 4 sna), (ad 20, eArr cI 150 ((playM quietM (onN wo) wd (waysM cl (ai 0) (sna 0) x y (fm 0)) 0 (w + 1)).1)), (ad 21, eArr cI 150 ((playM quietM (onN wo) wd (waysM cl (ai 0) (sna 0) x y (fm 0)) 0 (w + 1)).2))] H := by rw [playM_t (onN_t h9), ← hr1, ← hr2, ← hr3, Nat.add_zero]; exact hP
          have hD : va_D A [(ad 7, eArr cI 4 wma), (ad 8, eArr cI 32 be), (ad 9, eArr cI 32 va), (ad 10, eArr cI 32 lo), (rr, eMod ad len kp uo tm em pc0), (ad 2, eArr cI 2 fm), (ad 3, eArr cI 8 pq), (ad 4, eArr cI 8 dq), (ad 5, eArr cI 8 kq), (ad 6, eArr cI 2 ai), (ad 13, eArr cI 4 sna), (ad 20, eArr cI 150 ((playM quietM (onN wo) wd (waysM cl (ai 0) (sna 0) x y (fm 0)) 0 (w + 1)).1)), (ad 21, eArr cI 150 ((playM quietM (onN wo) wd (waysM cl (ai 0) (sna 0) x y (fm 0)) 0 (w + 1)).2))] := by rw [playM_t (onN_t h9), ← hr1, ← hr2, ← hr3, Nat.add_zero]; exact hD
          exact ih7 (w + 1) (by omega) (by omega) _ _ (hP.sub [4, 5, 6, 7, 8, 9, 10, 0, 1, 2, 3, 11, 12] rfl) (hD.sub [4, 5, 6, 7, 8, 9, 10, 0, 1, 2, 3, 11, 12] rfl rfl) hS _ (lv_sub hl [0, 1, 2, 3, 4] rfl)
  have hP : va_P D vwCl [(ad 2, eArr cI 2 fm), (ad 3, eArr cI 8 pq), (ad 4, eArr cI 8 dq), (ad 5, eArr cI 8 kq), (ad 6, eArr cI 2 ai), (ad 13, eArr cI 4 sna), (ad 7, eArr cI 4 wma), (ad 8, eArr cI 32 be), (ad 9, eArr cI 32 va), (ad 10, eArr cI 32 lo), (rr, eMod ad len kp uo tm em pc0), (ad 20, eArr cI 150 ((playM quietM (onN wo) wd (waysM cl (ai 0) (sna 0) x y (fm 0)) 0 0).1)), (ad 21, eArr cI 150 ((playM quietM (onN wo) wd (waysM cl (ai 0) (sna 0) x y (fm 0)) 0 0).2))] H := hP
  have hD : va_D A [(ad 2, eArr cI 2 fm), (ad 3, eArr cI 8 pq), (ad 4, eArr cI 8 dq), (ad 5, eArr cI 8 kq), (ad 6, eArr cI 2 ai), (ad 13, eArr cI 4 sna), (ad 7, eArr cI 4 wma), (ad 8, eArr cI 32 be), (ad 9, eArr cI 32 va), (ad 10, eArr cI 32 lo), (rr, eMod ad len kp uo tm em pc0), (ad 20, eArr cI 150 ((playM quietM (onN wo) wd (waysM cl (ai 0) (sna 0) x y (fm 0)) 0 0).1)), (ad 21, eArr cI 150 ((playM quietM (onN wo) wd (waysM cl (ai 0) (sna 0) x y (fm 0)) 0 0).2))] := hD
  exact loop7 _ 0 (Nat.lt_succ_self _) (by omega) _ _ (hP.sub [10, 0, 1, 2, 3, 4, 5, 6, 7, 8, 9, 11, 12] rfl) (hD.sub [10, 0, 1, 2, 3, 4, 5, 6, 7, 8, 9, 11, 12] rfl rfl) hS _ (lv_sub hl [0, 1, 2, 3, 4] rfl)

set_option maxRecDepth 100000 in
set_option maxHeartbeats 4000000 in
theorem c_X7_isClear (l : Launch) (D : va_G) (cI cC : ClassId) (rr : Nat) (ad : Nat → Nat) (len : Nat) (kp : Nat) (uo : Nat) (tm : Nat) (em : Nat) (pc0 : Nat) (ai : Nat → Nat) (be : Nat → Nat) (va : Nat → Nat) (lo : Nat → Nat) (S : Snd) (nw : Nat) (wd : Nat → Nat) (hrd : relD be va lo wd nw) (hokd : okD wd nw) (hnw : nw ≤ 8) (hai : ai 0 ≤ 99) (w : Nat) (x : Nat) (y : Nat) (hxy : x ≤ 40 ∧ y ≤ 40) (d : Nat) (hd0 : d ≤ 60) (hw9 : w < nw) (hS0 : okS S) : mtI l D cI cC yX7_isClear wsX7_isClear ({ frames := 1, cells := 0, slots := 0, locals := 21 }) [.ref rr, .int (nI w), .int (nI x), .int (nI y), .int (nI d)] [(rr, eMod ad len kp uo tm em pc0), (ad 6, eArr cI 2 ai), (ad 8, eArr cI 32 be), (ad 9, eArr cI 32 va), (ad 10, eArr cI 32 lo), (ad 21, eArr cI 150 S.2)] (fun (r : Int32) (_ : Unit) => (r = (nI 1) ∧ hitM S wd w d (absd x y) (ai 0 * absd x y) = true) ∨ (r = (nI 0) ∧ hitM S wd w d (absd x y) (ai 0 * absd x y) = false)) (fun (_ : Unit) => [(rr, eMod ad len kp uo tm em pc0), (ad 6, eArr cI 2 ai), (ad 8, eArr cI 32 be), (ad 9, eArr cI 32 va), (ad 10, eArr cI 32 lo), (ad 21, eArr cI 150 S.2)]) := by
  refine mtI_of (cc := cX7_isClear) (maxL := 7) (ret := (some .boolean)) (by decide) rfl rfl ?_
  intro p e s m below meth c A hx hb hml hr hts hown hlocks hN hA hK hP hD hS ls hl
  have hown : s.vm.findClass RX7 = some m.cls := hown
  have hl : lv_has ls 7 [(0, .ref rr), (1, .int (nI w)), (2, .int (nI x)), (3, .int (nI y)), (4, .int (nI d))] := hl
  obtain ⟨H, hHe⟩ : ∃ H, H = s.heap := ⟨_, rfl⟩
  rw [← hHe] at hP ⊢
  have hS : va_S A s.heap H [] := by rw [hHe]; exact va_S.rf
  have fl31 := hts (.fieldLink RX7 31 "EchoPaysRentModel" "beats" "[I") (by decide +kernel)
  have inX7 : ∀ w ∈ wsX70, w ∈ wsX7_isClear := by decide +kernel
  have fl37 := hts (.fieldLink RX7 37 "EchoPaysRentModel" "louds" "[I") (by decide +kernel)
  have fl25 := hts (.fieldLink RX7 25 "EchoPaysRentModel" "air" "[I") (by decide +kernel)
  have fl70 := hts (.fieldLink RX7 70 "EchoPaysRentModel" "what" "[I") (by decide +kernel)
  have fl34 := hts (.fieldLink RX7 34 "EchoPaysRentModel" "values" "[I") (by decide +kernel)
  refine lv_iload_n hx hb dX7_isClear_0 rfl (lv_at hl 2 rfl) ?_
  refine lv_iload_n hx hb dX7_isClear_1 rfl (lv_at hl 3 rfl) ?_
  refine k_S (As := [.int (nI x), .int (nI y)]) (wr := [(rr, eMod ad len kp uo tm em pc0), (ad 6, eArr cI 2 ai), (ad 8, eArr cI 32 be), (ad 9, eArr cI 32 va), (ad 10, eArr cI 32 lo), (ad 21, eArr cI 150 S.2)]) ⟨hx, hb, hml, hown, hts⟩ (c_X7_away l D cI cC x y (by omega)) (cwS 2 hts gX7_isClear_X7_away rfl rfl rfl (by decide +kernel) ⟨Nat.le_of_ble_eq_true rfl, Nat.le_of_ble_eq_true rfl⟩) rfl hl.1 rfl (Nat.le_of_ble_eq_true rfl) dX7_isClear_2 ⟨Nat.zero_le _, Nat.zero_le _⟩ hN hK hP hD hS hA [] [0, 1, 2, 3, 4, 5] rfl rfl ⟨rfl, rfl, by decide⟩ (fun r1 u H locs w2 hP hD hS => ?_)
  obtain rfl : r1 = (nI (absd x y)) := w2
  obtain ⟨hr1, hr2, hr3⟩ := hrd w (by omega)
  obtain ⟨ho1, ho2, ho3, ho4, ho5⟩ := hokd w (by omega)
  have f3 : be w ≤ 30 := by omega
  have f4 : 1 ≤ va w := by omega
  have f5 : va w ≤ 7 := by omega
  have f6 : 1 ≤ lo w := by omega
  have f7 : lo w ≤ 60 := by omega
  have f8 : absd x y ≤ 40 := absd_le (by omega) (by omega)
  have f9 : ai 0 * absd x y ≤ 3960 := (Nat.mul_le_mul hai (show absd x y ≤ 40 by omega) : ai 0 * absd x y ≤ 99 * 40)
  refine lv_istore (lv' := [(5, .int (nI (absd x y))), (0, .ref rr), (1, .int (nI w)), (2, .int (nI x)), (3, .int (nI y)), (4, .int (nI d))]) hx hb dX7_isClear_5 hl (by decide) rfl (fun ls hl => ?_)
  refine lv_aload_n hx hb dX7_isClear_7 rfl (lv_at hl 1 rfl) ?_
  refine va_get (D := D) (ci := 7) (v := .ref (ad 8)) (C := RX7) (T := TX7) (N := 28) hx hb hts inX7 hown hK hP 0 rfl rfl 8 (by decide) fl31 (fun _ h9 => h9) rfl dX7_isClear_8 ?_
  refine lv_iload_n hx hb dX7_isClear_11 rfl (lv_at hl 2 rfl) ?_
  refine x_iald (A := A) hx hb hK hP 2 0 rfl rfl dX7_isClear_12 (by omega) (by omega) ?_
  refine lv_iload hx hb dX7_isClear_13 (lv_at hl 0 rfl) ?_
  refine x_iadd hx hb dX7_isClear_15 ?_
  refine lv_iload hx hb dX7_isClear_16 (lv_at hl 5 rfl) ?_
  refine x_iadd hx hb dX7_isClear_18 ?_
  refine lv_istore (lv' := [(6, .int (nI (be w + absd x y + d))), (5, .int (nI (absd x y))), (0, .ref rr), (1, .int (nI w)), (2, .int (nI x)), (3, .int (nI y)), (4, .int (nI d))]) hx hb dX7_isClear_19 hl (by decide) rfl (fun ls hl => ?_)
  refine lv_aload_n hx hb dX7_isClear_21 rfl (lv_at hl 2 rfl) ?_
  refine va_get (D := D) (ci := 7) (v := .ref (ad 10)) (C := RX7) (T := TX7) (N := 28) hx hb hts inX7 hown hK hP 0 rfl rfl 10 (by decide) fl37 (fun _ h9 => h9) rfl dX7_isClear_22 ?_
  refine lv_iload_n hx hb dX7_isClear_25 rfl (lv_at hl 3 rfl) ?_
  refine x_iald (A := A) hx hb hK hP 4 0 rfl rfl dX7_isClear_26 (by omega) (by omega) ?_
  refine lv_aload_n hx hb dX7_isClear_27 rfl (lv_at hl 2 rfl) ?_
  refine va_get (D := D) (ci := 7) (v := .ref (ad 6)) (C := RX7) (T := TX7) (N := 28) hx hb hts inX7 hown hK hP 0 rfl rfl 6 (by decide) fl25 (fun _ h9 => h9) rfl dX7_isClear_28 ?_
  refine lv_iconst (v := (nI 0)) hx hb dX7_isClear_31 (by decide) ?_
  refine x_iald (A := A) hx hb hK hP 1 0 rfl rfl dX7_isClear_32 (by omega) (by omega) ?_
  refine lv_iload hx hb dX7_isClear_33 (lv_at hl 1 rfl) ?_
  refine x_imul hx hb dX7_isClear_35 ?_
  refine x_isubZ hx hb dX7_isClear_36 ?_
  refine z_if_le (tgt := 60) hx hb dX7_isClear_37 (by decide) (by omega) (fun h10 => ?_) (fun h10 => ?_)
  · refine lv_iconst (v := (nI 0)) hx hb dX7_isClear_60 (by decide) ?_
    exact x_iret hx hb hr hlocks dX7_isClear_61 rfl (post := fun (r : Int32) (_ : Unit) => (r = (nI 1) ∧ hitM S wd w d (absd x y) (ai 0 * absd x y) = true) ∨ (r = (nI 0) ∧ hitM S wd w d (absd x y) (ai 0 * absd x y) = false)) (w1 := fun (_ : Unit) => [(rr, eMod ad len kp uo tm em pc0), (ad 6, eArr cI 2 ai), (ad 8, eArr cI 32 be), (ad 9, eArr cI 32 va), (ad 10, eArr cI 32 lo), (ad 21, eArr cI 150 S.2)]) () (Or.inr ⟨rfl, by first | exact hitM_f1 (by omega) | (exact hitM_f3 (by rw [show wd (3 * w + 0) + d + absd x y = be w + absd x y + d from by omega, ← hr2]; assumption))⟩) hK hP hD hS
  · have hSb := hS0 (be w + absd x y + d)
    refine lv_aload_n hx hb dX7_isClear_40 rfl (lv_at hl 2 rfl) ?_
    refine va_get (D := D) (ci := 7) (v := .ref (ad 21)) (C := RX7) (T := TX7) (N := 28) hx hb hts inX7 hown hK hP 0 rfl rfl 26 (by decide) fl70 (fun _ h9 => h9) rfl dX7_isClear_41 ?_
    refine lv_iload hx hb dX7_isClear_44 (lv_at hl 0 rfl) ?_
    refine x_iald (A := A) hx hb hK hP 5 0 rfl rfl dX7_isClear_46 (by omega) (by omega) ?_
    refine lv_aload_n hx hb dX7_isClear_47 rfl (lv_at hl 2 rfl) ?_
    refine va_get (D := D) (ci := 7) (v := .ref (ad 9)) (C := RX7) (T := TX7) (N := 28) hx hb hts inX7 hown hK hP 0 rfl rfl 9 (by decide) fl34 (fun _ h9 => h9) rfl dX7_isClear_48 ?_
    refine lv_iload_n hx hb dX7_isClear_51 rfl (lv_at hl 3 rfl) ?_
    refine x_iald (A := A) hx hb hK hP 3 0 rfl rfl dX7_isClear_52 (by omega) (by omega) ?_
    refine x_icmp_ne (tgt := 60) hx hb dX7_isClear_53 (by decide) (by omega) (by omega) (fun h11 => ?_) (fun h11 => ?_)
    · refine lv_iconst (v := (nI 0)) hx hb dX7_isClear_60 (by decide) ?_
      exact x_iret hx hb hr hlocks dX7_isClear_61 rfl (post := fun (r : Int32) (_ : Unit) => (r = (nI 1) ∧ hitM S wd w d (absd x y) (ai 0 * absd x y) = true) ∨ (r = (nI 0) ∧ hitM S wd w d (absd x y) (ai 0 * absd x y) = false)) (w1 := fun (_ : Unit) => [(rr, eMod ad len kp uo tm em pc0), (ad 6, eArr cI 2 ai), (ad 8, eArr cI 32 be), (ad 9, eArr cI 32 va), (ad 10, eArr cI 32 lo), (ad 21, eArr cI 150 S.2)]) () (Or.inr ⟨rfl, by first | exact hitM_f1 (by omega) | (exact hitM_f3 (by rw [show wd (3 * w + 0) + d + absd x y = be w + absd x y + d from by omega, ← hr2]; assumption))⟩) hK hP hD hS
    · refine lv_iconst (v := (nI 1)) hx hb dX7_isClear_56 (by decide) ?_
      refine lv_goto (tgt := 61) hx hb dX7_isClear_57 (by decide) ?_
      exact x_iret hx hb hr hlocks dX7_isClear_61 rfl (post := fun (r : Int32) (_ : Unit) => (r = (nI 1) ∧ hitM S wd w d (absd x y) (ai 0 * absd x y) = true) ∨ (r = (nI 0) ∧ hitM S wd w d (absd x y) (ai 0 * absd x y) = false)) (w1 := fun (_ : Unit) => [(rr, eMod ad len kp uo tm em pc0), (ad 6, eArr cI 2 ai), (ad 8, eArr cI 32 be), (ad 9, eArr cI 32 va), (ad 10, eArr cI 32 lo), (ad 21, eArr cI 150 S.2)]) () (Or.inl ⟨rfl, hitM_t (by omega) (by omega) (by rw [show wd (3 * w + 0) + d + absd x y = be w + absd x y + d from by omega, ← hr2]; assumption)⟩) hK hP hD hS

set_option maxRecDepth 100000 in
set_option maxHeartbeats 4000000 in
theorem c_X7_clearOf (l : Launch) (D : va_G) (cI cC : ClassId) (rr : Nat) (ad : Nat → Nat) (len : Nat) (kp : Nat) (uo : Nat) (tm : Nat) (em : Nat) (pc0 : Nat) (ai : Nat → Nat) (wma : Nat → Nat) (be : Nat → Nat) (va : Nat → Nat) (lo : Nat → Nat) (S : Snd) (wd : Nat → Nat) (hrd : relD be va lo wd (wma 0)) (hokd : okD wd (wma 0)) (hnw : wma 0 ≤ 8) (hai : ai 0 ≤ 99) (x : Nat) (y : Nat) (hxy : x ≤ 40 ∧ y ≤ 40) (hS0 : okS S) : mtI l D cI cC yX7_clearOf wsX7_clearOf ({ frames := 2, cells := 0, slots := 0, locals := 47 }) [.ref rr, .int (nI x), .int (nI y)] [(rr, eMod ad len kp uo tm em pc0), (ad 6, eArr cI 2 ai), (ad 7, eArr cI 4 wma), (ad 8, eArr cI 32 be), (ad 9, eArr cI 32 va), (ad 10, eArr cI 32 lo), (ad 21, eArr cI 150 S.2)] (fun (r : Int32) (_ : Unit) => r = (nI (hitS S wd 0 (absd x y) (ai 0 * absd x y) (wma 0)))) (fun (_ : Unit) => [(rr, eMod ad len kp uo tm em pc0), (ad 6, eArr cI 2 ai), (ad 7, eArr cI 4 wma), (ad 8, eArr cI 32 be), (ad 9, eArr cI 32 va), (ad 10, eArr cI 32 lo), (ad 21, eArr cI 150 S.2)]) := by
  refine mtI_of (cc := cX7_clearOf) (maxL := 5) (ret := (some .int)) (by decide) rfl rfl ?_
  intro p e s m below meth c A hx hb hml hr hts hown hlocks hN hA hK hP hD hS ls hl
  have hown : s.vm.findClass RX7 = some m.cls := hown
  have hl : lv_has ls 5 [(0, .ref rr), (1, .int (nI x)), (2, .int (nI y))] := hl
  obtain ⟨H, hHe⟩ : ∃ H, H = s.heap := ⟨_, rfl⟩
  rw [← hHe] at hP ⊢
  have hS : va_S A s.heap H [] := by rw [hHe]; exact va_S.rf
  have fl28 := hts (.fieldLink RX7 28 "EchoPaysRentModel" "wordMany" "[I") (by decide +kernel)
  have inX7 : ∀ w ∈ wsX70, w ∈ wsX7_clearOf := by decide +kernel
  refine lv_iconst (v := (nI 0)) hx hb dX7_clearOf_0 (by decide) ?_
  refine lv_istore_n (lv' := [(3, .int (nI 0)), (0, .ref rr), (1, .int (nI x)), (2, .int (nI y))]) hx hb dX7_clearOf_1 rfl hl (by decide) rfl (fun ls hl => ?_)
  refine lv_iconst (v := (nI 0)) hx hb dX7_clearOf_2 (by decide) ?_
  refine lv_istore (lv' := [(4, .int (nI 0)), (3, .int (nI 0)), (0, .ref rr), (1, .int (nI x)), (2, .int (nI y))]) hx hb dX7_clearOf_3 hl (by decide) rfl (fun ls hl => ?_)
  have loop5 : ∀ (nn5 : Nat) (w : Nat), wma 0 - w < nn5 → (w ≤ wma 0) → ∀ (H : Heap) (locs : List Loc), va_P D vwCl [(rr, eMod ad len kp uo tm em pc0), (ad 6, eArr cI 2 ai), (ad 7, eArr cI 4 wma), (ad 8, eArr cI 32 be), (ad 9, eArr cI 32 va), (ad 10, eArr cI 32 lo), (ad 21, eArr cI 150 S.2)] H → va_D A [(rr, eMod ad len kp uo tm em pc0), (ad 6, eArr cI 2 ai), (ad 7, eArr cI 4 wma), (ad 8, eArr cI 32 be), (ad 9, eArr cI 32 va), (ad 10, eArr cI 32 lo), (ad 21, eArr cI 150 S.2)] → va_S A s.heap H locs → ∀ ls : Array Slot, lv_has ls 5 [(4, .int (nI w)), (3, .int (nI (hitS S wd 0 (absd x y) (ai 0 * absd x y) w))), (0, .ref rr), (1, .int (nI x)), (2, .int (nI y))] → W p l e (headSpec wsX7_clearOf ({ frames := 2, cells := 0, slots := 0, locals := 47 })).room s m ([.ref rr, .int (nI x), .int (nI y)] : List Value).toArray below meth c H locs 0 0 (MQ below (va_Qi (fun (r : Int32) (_ : Unit) => r = (nI (hitS S wd 0 (absd x y) (ai 0 * absd x y) (wma 0)))) (ctB D cI cC (fun (_ : Unit) => [(rr, eMod ad len kp uo tm em pc0), (ad 6, eArr cI 2 ai), (ad 7, eArr cI 4 wma), (ad 8, eArr cI 32 be), (ad 9, eArr cI 32 va), (ad 10, eArr cI 32 lo), (ad 21, eArr cI 150 S.2)]) A) A) ([.ref rr, .int (nI x), .int (nI y)] : List Value).toArray s 0 0 A) (F0 m 5 ls []) := by
    intro nn5
    induction nn5 with
    | zero =>
      intro w hm1
      exact absurd hm1 (Nat.not_lt_zero _)
    | succ nn5 ih5 =>
      intro w hm1 hi2 H locs hP hD hS ls hl
      refine lv_iload hx hb dX7_clearOf_5 (lv_at hl 0 rfl) ?_
      refine lv_aload_n hx hb dX7_clearOf_7 rfl (lv_at hl 2 rfl) ?_
      refine va_get (D := D) (ci := 7) (v := .ref (ad 7)) (C := RX7) (T := TX7) (N := 28) hx hb hts inX7 hown hK hP 0 rfl rfl 7 (by decide) fl28 (fun _ h9 => h9) rfl dX7_clearOf_8 ?_
      refine lv_iconst (v := (nI 0)) hx hb dX7_clearOf_11 (by decide) ?_
      refine x_iald (A := A) hx hb hK hP 2 0 rfl rfl dX7_clearOf_12 (by omega) (by omega) ?_
      refine x_icmp_ge (tgt := 45) hx hb dX7_clearOf_13 (by decide) (by omega) (by omega) (fun h3 => ?_) (fun h3 => ?_)
      · have ew : w = wma 0 := by omega
        rw [ew] at hl
        refine lv_iload_n hx hb dX7_clearOf_45 rfl (lv_at hl 1 rfl) ?_
        exact x_iret hx hb hr hlocks dX7_clearOf_46 rfl (post := fun (r : Int32) (_ : Unit) => r = (nI (hitS S wd 0 (absd x y) (ai 0 * absd x y) (wma 0)))) (w1 := fun (_ : Unit) => [(rr, eMod ad len kp uo tm em pc0), (ad 6, eArr cI 2 ai), (ad 7, eArr cI 4 wma), (ad 8, eArr cI 32 be), (ad 9, eArr cI 32 va), (ad 10, eArr cI 32 lo), (ad 21, eArr cI 150 S.2)]) () rfl hK hP hD hS
      · refine lv_iload_n hx hb dX7_clearOf_16 rfl (lv_at hl 1 rfl) ?_
        refine lv_aload_n hx hb dX7_clearOf_17 rfl (lv_at hl 2 rfl) ?_
        refine lv_iload hx hb dX7_clearOf_18 (lv_at hl 0 rfl) ?_
        refine lv_iload_n hx hb dX7_clearOf_20 rfl (lv_at hl 3 rfl) ?_
        refine lv_iload_n hx hb dX7_clearOf_21 rfl (lv_at hl 4 rfl) ?_
        refine lv_iconst (v := (nI 0)) hx hb dX7_clearOf_22 (by decide) ?_
        refine k_V (q := (RX7, TX7, 28)) (ci := 7) (As := [.int (nI w), .int (nI x), .int (nI y), .int (nI 0)]) (wr := [(ad 7, eArr cI 4 wma)]) ⟨hx, hb, hml, hown, hts⟩ (c_X7_isClear l D cI cC rr ad len kp uo tm em pc0 ai be va lo S (wma 0) wd hrd hokd (by omega) (by omega) w x y (by omega) 0 (by omega) (by omega) hS0) (cwV 4 hts gX7_clearOf_X7_isClear rfl rfl rfl (by decide +kernel) ⟨Nat.le_of_ble_eq_true rfl, Nat.le_of_ble_eq_true rfl⟩) rfl hl.1 rfl (Nat.le_of_ble_eq_true rfl) dX7_clearOf_23 ⟨Nat.zero_le _, Nat.zero_le _⟩ hN hK hP hD hS hA rfl (q0 := 0) rfl [0, 1, 3, 4, 5, 6] [2] rfl rfl ⟨rfl, rfl, by decide⟩ (fun r4 u H locs w5 hP hD hS => ?_)
        obtain ⟨rfl, h6⟩ | ⟨rfl, h7⟩ : (r4 = (nI 1) ∧ hitM S wd w 0 (absd x y) (ai 0 * absd x y) = true) ∨ (r4 = (nI 0) ∧ hitM S wd w 0 (absd x y) (ai 0 * absd x y) = false) := w5
        · refine x_if_eq (tgt := 36) hx hb dX7_clearOf_26 (by decide) (by omega) (fun h8 => False.elim (by omega)) (fun h8 => ?_)
          refine lv_iconst (v := (nI 1)) hx hb dX7_clearOf_29 (by decide) ?_
          refine lv_iload hx hb dX7_clearOf_30 (lv_at hl 0 rfl) ?_
          refine x_shl1 hx hb dX7_clearOf_32 (by omega) ?_
          refine lv_goto (tgt := 37) hx hb dX7_clearOf_33 (by decide) ?_
          refine x_ior2 hx hb dX7_clearOf_37 (hitS_lt _ _ _ _ _ w) (by omega) ?_
          refine lv_istore_n (lv' := [(3, .int (nI (hitS S wd 0 (absd x y) (ai 0 * absd x y) w + 2 ^ w))), (4, .int (nI w)), (0, .ref rr), (1, .int (nI x)), (2, .int (nI y))]) hx hb dX7_clearOf_38 rfl hl (by decide) rfl (fun ls hl => ?_)
          refine lv_iinc (v := (nI (w + 1))) (lv' := [(4, .int (nI (w + 1))), (3, .int (nI (hitS S wd 0 (absd x y) (ai 0 * absd x y) w + 2 ^ w))), (0, .ref rr), (1, .int (nI x)), (2, .int (nI y))]) hx hb dX7_clearOf_39 hl (k := 1) rfl (nI_inc _ 1) (by decide) rfl (fun ls hl => ?_)
          refine lv_goto (tgt := 5) hx hb dX7_clearOf_42 (by decide) ?_
          rw [show nI (hitS S wd 0 (absd x y) (ai 0 * absd x y) w + 2 ^ w) = nI (hitS S wd 0 (absd x y) (ai 0 * absd x y) (w + 1)) from by rw [hitS_t h6]] at hl
          exact ih5 (w + 1) (by omega) (by omega) _ _ (hP.sub [1, 2, 0, 3, 4, 5, 6] rfl) (hD.sub [1, 2, 0, 3, 4, 5, 6] rfl rfl) hS _ (lv_sub hl [0, 1, 2, 3, 4] rfl)
        · refine x_if_eq (tgt := 36) hx hb dX7_clearOf_26 (by decide) (by omega) (fun h9 => ?_) (fun h9 => False.elim (by omega))
          refine lv_iconst (v := (nI 0)) hx hb dX7_clearOf_36 (by decide) ?_
          refine x_iorN hx hb dX7_clearOf_37 ?_
          refine lv_istore_n (lv' := [(3, .int (nI ((hitS S wd 0 (absd x y) (ai 0 * absd x y) w) ||| 0))), (4, .int (nI w)), (0, .ref rr), (1, .int (nI x)), (2, .int (nI y))]) hx hb dX7_clearOf_38 rfl hl (by decide) rfl (fun ls hl => ?_)
          refine lv_iinc (v := (nI (w + 1))) (lv' := [(4, .int (nI (w + 1))), (3, .int (nI ((hitS S wd 0 (absd x y) (ai 0 * absd x y) w) ||| 0))), (0, .ref rr), (1, .int (nI x)), (2, .int (nI y))]) hx hb dX7_clearOf_39 hl (k := 1) rfl (nI_inc _ 1) (by decide) rfl (fun ls hl => ?_)
          refine lv_goto (tgt := 5) hx hb dX7_clearOf_42 (by decide) ?_
          rw [show nI ((hitS S wd 0 (absd x y) (ai 0 * absd x y) w) ||| 0) = nI (hitS S wd 0 (absd x y) (ai 0 * absd x y) (w + 1)) from by rw [Nat.or_zero, hitS_f h7]] at hl
          exact ih5 (w + 1) (by omega) (by omega) _ _ (hP.sub [1, 2, 0, 3, 4, 5, 6] rfl) (hD.sub [1, 2, 0, 3, 4, 5, 6] rfl rfl) hS _ (lv_sub hl [0, 1, 2, 3, 4] rfl)
  exact loop5 _ 0 (Nat.lt_succ_self _) (by omega) _ _ (hP.sub [0, 1, 2, 3, 4, 5, 6] rfl) (hD.sub [0, 1, 2, 3, 4, 5, 6] rfl rfl) hS _ (lv_sub hl [0, 1, 2, 3, 4] rfl)

set_option maxRecDepth 100000 in
set_option maxHeartbeats 4000000 in
theorem c_X7_clearMany (l : Launch) (D : va_G) (cI cC : ClassId) (rr : Nat) (ad : Nat → Nat) (len : Nat) (kp : Nat) (uo : Nat) (tm : Nat) (em : Nat) (pc0 : Nat) (fm : Nat → Nat) (pq : Nat → Nat) (dq : Nat → Nat) (kq : Nat → Nat) (ai : Nat → Nat) (sna : Nat → Nat) (wma : Nat → Nat) (be : Nat → Nat) (va : Nat → Nat) (lo : Nat → Nat) (lg : Nat → Nat) (vg : Nat → Nat) (cl : Nat → Nat) (hrc : relC pq dq kq cl (fm 0)) (hok : okC cl (fm 0)) (hfm : fm 0 ≤ 4 ∧ ai 0 ≤ 99 ∧ sna 0 < 2147483648) (wd : Nat → Nat) (hrd : relD be va lo wd (wma 0)) (hokd : okD wd (wma 0)) (hnw : wma 0 ≤ 8) (x : Nat) (y : Nat) (hxy : x ≤ 40 ∧ y ≤ 40) : mtI l D cI cC yX7_clearMany wsX7_clearMany ({ frames := 4, cells := 0, slots := 0, locals := 98 }) [.ref rr, .int (nI x), .int (nI y)] [(rr, eMod ad len kp uo tm em pc0), (ad 2, eArr cI 2 fm), (ad 3, eArr cI 8 pq), (ad 4, eArr cI 8 dq), (ad 5, eArr cI 8 kq), (ad 6, eArr cI 2 ai), (ad 13, eArr cI 4 sna), (ad 7, eArr cI 4 wma), (ad 8, eArr cI 32 be), (ad 9, eArr cI 32 va), (ad 10, eArr cI 32 lo), (ad 20, eArr cI 150 lg), (ad 21, eArr cI 150 vg)] (fun (r : Int32) (_ : Unit) => r = (nI (cntClr cl (fm 0) (ai 0) (sna 0) wd (wma 0) x y))) (fun (_ : Unit) => [(rr, eMod ad len kp uo tm em pc0), (ad 2, eArr cI 2 fm), (ad 3, eArr cI 8 pq), (ad 4, eArr cI 8 dq), (ad 5, eArr cI 8 kq), (ad 6, eArr cI 2 ai), (ad 13, eArr cI 4 sna), (ad 7, eArr cI 4 wma), (ad 8, eArr cI 32 be), (ad 9, eArr cI 32 va), (ad 10, eArr cI 32 lo), (ad 20, eArr cI 150 ((hearM cl (fm 0) (ai 0) (sna 0) wd (wma 0) x y (2 ^ (wma 0) - 1)).1)), (ad 21, eArr cI 150 ((hearM cl (fm 0) (ai 0) (sna 0) wd (wma 0) x y (2 ^ (wma 0) - 1)).2))]) := by
  refine mtI_of (cc := cX7_clearMany) (maxL := 3) (ret := (some .int)) (by decide) rfl rfl ?_
  intro p e s m below meth c A hx hb hml hr hts hown hlocks hN hA hK hP hD hS ls hl
  have hown : s.vm.findClass RX7 = some m.cls := hown
  have hl : lv_has ls 3 [(0, .ref rr), (1, .int (nI x)), (2, .int (nI y))] := hl
  obtain ⟨H, hHe⟩ : ∃ H, H = s.heap := ⟨_, rfl⟩
  rw [← hHe] at hP ⊢
  have hS : va_S A s.heap H [] := by rw [hHe]; exact va_S.rf
  refine lv_aload_n hx hb dX7_clearMany_0 rfl (lv_at hl 0 rfl) ?_
  refine lv_iload_n hx hb dX7_clearMany_1 rfl (lv_at hl 1 rfl) ?_
  refine lv_iload_n hx hb dX7_clearMany_2 rfl (lv_at hl 2 rfl) ?_
  refine lv_iconst (v := (nI 0)) hx hb dX7_clearMany_3 (by decide) ?_
  refine k_Vv (q := (RX7, TX7, 28)) (ci := 7) (As := [.int (nI x), .int (nI y), .int (nI 0)]) (wr := []) ⟨hx, hb, hml, hown, hts⟩ (c_X7_sayAll l D cI cC rr ad len kp uo tm em pc0 fm pq dq kq ai sna wma be va lo cl hrc hok (by omega) wd hrd hokd (by omega) x y (by omega) 0 (Nat.two_pow_pos _) lg vg) (cwV 3 hts gX7_clearMany_X7_sayAll rfl rfl rfl (by decide +kernel) ⟨Nat.le_of_ble_eq_true rfl, Nat.le_of_ble_eq_true rfl⟩) rfl hl.1 rfl (Nat.le_of_ble_eq_true rfl) dX7_clearMany_4 ⟨Nat.zero_le _, Nat.zero_le _⟩ hN hK hP hD hS hA rfl (q0 := 0) rfl [0, 1, 2, 3, 4, 5, 6, 7, 8, 9, 10, 11, 12] [] rfl rfl ⟨rfl, rfl, by decide⟩ (fun u H locs w2 hP hD hS => ?_)
  have hP : va_P D vwCl [(rr, eMod ad len kp uo tm em pc0), (ad 2, eArr cI 2 fm), (ad 3, eArr cI 8 pq), (ad 4, eArr cI 8 dq), (ad 5, eArr cI 8 kq), (ad 6, eArr cI 2 ai), (ad 13, eArr cI 4 sna), (ad 7, eArr cI 4 wma), (ad 8, eArr cI 32 be), (ad 9, eArr cI 32 va), (ad 10, eArr cI 32 lo), (ad 20, eArr cI 150 ((hearM cl (fm 0) (ai 0) (sna 0) wd (wma 0) x y (2 ^ (wma 0) - 1)).1)), (ad 21, eArr cI 150 ((hearM cl (fm 0) (ai 0) (sna 0) wd (wma 0) x y (2 ^ (wma 0) - 1)).2))] H := by rw [show 2 ^ (wma 0) - 1 = 2 ^ (wma 0) - 1 - 0 from rfl]; exact hP
  have hD : va_D A [(rr, eMod ad len kp uo tm em pc0), (ad 2, eArr cI 2 fm), (ad 3, eArr cI 8 pq), (ad 4, eArr cI 8 dq), (ad 5, eArr cI 8 kq), (ad 6, eArr cI 2 ai), (ad 13, eArr cI 4 sna), (ad 7, eArr cI 4 wma), (ad 8, eArr cI 32 be), (ad 9, eArr cI 32 va), (ad 10, eArr cI 32 lo), (ad 20, eArr cI 150 ((hearM cl (fm 0) (ai 0) (sna 0) wd (wma 0) x y (2 ^ (wma 0) - 1)).1)), (ad 21, eArr cI 150 ((hearM cl (fm 0) (ai 0) (sna 0) wd (wma 0) x y (2 ^ (wma 0) - 1)).2))] := by rw [show 2 ^ (wma 0) - 1 = 2 ^ (wma 0) - 1 - 0 from rfl]; exact hD
  refine lv_aload_n hx hb dX7_clearMany_7 rfl (lv_at hl 0 rfl) ?_
  refine lv_iload_n hx hb dX7_clearMany_8 rfl (lv_at hl 1 rfl) ?_
  refine lv_iload_n hx hb dX7_clearMany_9 rfl (lv_at hl 2 rfl) ?_
  refine k_V (q := (RX7, TX7, 28)) (ci := 7) (As := [.int (nI x), .int (nI y)]) (wr := [(ad 2, eArr cI 2 fm), (ad 3, eArr cI 8 pq), (ad 4, eArr cI 8 dq), (ad 5, eArr cI 8 kq), (ad 13, eArr cI 4 sna), (ad 20, eArr cI 150 ((hearM cl (fm 0) (ai 0) (sna 0) wd (wma 0) x y (2 ^ (wma 0) - 1)).1))]) ⟨hx, hb, hml, hown, hts⟩ (c_X7_clearOf l D cI cC rr ad len kp uo tm em pc0 ai wma be va lo (hearM cl (fm 0) (ai 0) (sna 0) wd (wma 0) x y (2 ^ (wma 0) - 1)) wd hrd hokd (by omega) hfm.2.1 x y (by omega) (okS_play okS_quiet hokd _ (Nat.le_refl _))) (cwV 2 hts gX7_clearMany_X7_clearOf rfl rfl rfl (by decide +kernel) ⟨Nat.le_of_ble_eq_true rfl, Nat.le_of_ble_eq_true rfl⟩) rfl hl.1 rfl (Nat.le_of_ble_eq_true rfl) dX7_clearMany_10 ⟨Nat.zero_le _, Nat.zero_le _⟩ hN hK hP hD hS hA rfl (q0 := 0) rfl [0, 5, 7, 8, 9, 10, 12] [1, 2, 3, 4, 6, 11] rfl rfl ⟨rfl, rfl, by decide⟩ (fun r3 u H locs w4 hP hD hS => ?_)
  obtain rfl : r3 = (nI (hitS (hearM cl (fm 0) (ai 0) (sna 0) wd (wma 0) x y (2 ^ (wma 0) - 1)) wd 0 (absd x y) (ai 0 * absd x y) (wma 0))) := w4
  refine x_top (congrArg nI (clr_of hnw)) ?_
  refine k_S (As := [.int (nI (clrM cl (fm 0) (ai 0) (sna 0) wd (wma 0) x y (2 ^ (wma 0) - 1)))]) (wr := [(ad 2, eArr cI 2 fm), (ad 3, eArr cI 8 pq), (ad 4, eArr cI 8 dq), (ad 5, eArr cI 8 kq), (ad 13, eArr cI 4 sna), (ad 20, eArr cI 150 ((hearM cl (fm 0) (ai 0) (sna 0) wd (wma 0) x y (2 ^ (wma 0) - 1)).1)), (rr, eMod ad len kp uo tm em pc0), (ad 6, eArr cI 2 ai), (ad 7, eArr cI 4 wma), (ad 8, eArr cI 32 be), (ad 9, eArr cI 32 va), (ad 10, eArr cI 32 lo), (ad 21, eArr cI 150 ((hearM cl (fm 0) (ai 0) (sna 0) wd (wma 0) x y (2 ^ (wma 0) - 1)).2))]) ⟨hx, hb, hml, hown, hts⟩ (c_X7_bits l D cI cC (clrM cl (fm 0) (ai 0) (sna 0) wd (wma 0) x y (2 ^ (wma 0) - 1)) (bits_4096 hnw)) (cwS 1 hts gX7_clearMany_X7_bits rfl rfl rfl (by decide +kernel) ⟨Nat.le_of_ble_eq_true rfl, Nat.le_of_ble_eq_true rfl⟩) rfl hl.1 rfl (Nat.le_of_ble_eq_true rfl) dX7_clearMany_13 ⟨Nat.zero_le _, Nat.zero_le _⟩ hN hK hP hD hS hA [] [0, 1, 2, 3, 4, 5, 6, 7, 8, 9, 10, 11, 12] rfl rfl ⟨rfl, rfl, by decide⟩ (fun r5 u H locs w6 hP hD hS => ?_)
  obtain rfl : r5 = (nI (popM (clrM cl (fm 0) (ai 0) (sna 0) wd (wma 0) x y (2 ^ (wma 0) - 1)))) := w6
  exact x_iret hx hb hr hlocks dX7_clearMany_16 rfl (post := fun (r : Int32) (_ : Unit) => r = (nI (cntClr cl (fm 0) (ai 0) (sna 0) wd (wma 0) x y))) (w1 := fun (_ : Unit) => [(rr, eMod ad len kp uo tm em pc0), (ad 2, eArr cI 2 fm), (ad 3, eArr cI 8 pq), (ad 4, eArr cI 8 dq), (ad 5, eArr cI 8 kq), (ad 6, eArr cI 2 ai), (ad 13, eArr cI 4 sna), (ad 7, eArr cI 4 wma), (ad 8, eArr cI 32 be), (ad 9, eArr cI 32 va), (ad 10, eArr cI 32 lo), (ad 20, eArr cI 150 ((hearM cl (fm 0) (ai 0) (sna 0) wd (wma 0) x y (2 ^ (wma 0) - 1)).1)), (ad 21, eArr cI 150 ((hearM cl (fm 0) (ai 0) (sna 0) wd (wma 0) x y (2 ^ (wma 0) - 1)).2))]) () rfl hK (hP.sub [6, 0, 1, 2, 3, 7, 4, 8, 9, 10, 11, 5, 12] rfl) (hD.sub [6, 0, 1, 2, 3, 7, 4, 8, 9, 10, 11, 5, 12] rfl rfl) hS
