/-- the most, in one number; the first of the yards is the best of none -/
def pmM (F G : Nat → Nat) (n : Nat) : Int := if n = 0 then -4 else 100 * (argM F G n).2.1 + (argM F G n).2.2
theorem argM_pos {F G : Nat → Nat} (n : Nat) : 0 ≤ (argM F G (n + 1)).2.1 ∧ 0 ≤ (argM F G (n + 1)).2.2 := by
  induction n with
  | zero =>
    have h : (argM F G 0).2.1 < (F 0 : Int) ∨ ((F 0 : Int) = (argM F G 0).2.1 ∧ (argM F G 0).2.2 < (G 0 : Int)) := Or.inl (by show (-1 : Int) < _; omega)
    rw [argM_t h]; dsimp only; omega
  | succ x ih =>
    by_cases h : (argM F G (x + 1)).2.1 < (F (x + 1) : Int) ∨ ((F (x + 1) : Int) = (argM F G (x + 1)).2.1 ∧ (argM F G (x + 1)).2.2 < (G (x + 1) : Int))
    · rw [argM_t h]; dsimp only; omega
    · rw [argM_f h]; exact ih
theorem argM_val {F G : Nat → Nat} (n : Nat) : (argM F G (n + 1)).2.1 = (F (argM F G (n + 1)).1 : Int) ∧ (argM F G (n + 1)).2.2 = (G (argM F G (n + 1)).1 : Int) := by
  induction n with
  | zero =>
    have h : (argM F G 0).2.1 < (F 0 : Int) ∨ ((F 0 : Int) = (argM F G 0).2.1 ∧ (argM F G 0).2.2 < (G 0 : Int)) := Or.inl (by show (-1 : Int) < _; omega)
    rw [argM_t h]; exact ⟨rfl, rfl⟩
  | succ x ih =>
    by_cases h : (argM F G (x + 1)).2.1 < (F (x + 1) : Int) ∨ ((F (x + 1) : Int) = (argM F G (x + 1)).2.1 ∧ (argM F G (x + 1)).2.2 < (G (x + 1) : Int))
    · rw [argM_t h]; exact ⟨rfl, rfl⟩
    · rw [argM_f h]; exact ih
theorem pmM_gt {F G : Nat → Nat} {x : Nat} (hF : ∀ x, F x ≤ 12) (hG : ∀ x, G x ≤ 12) (h : pmM F G x < ((100 * F x + G x : Nat) : Int)) : argM F G (x + 1) = (x, (F x : Int), (G x : Int)) ∧ pmM F G (x + 1) = ((100 * F x + G x : Nat) : Int) := by
  have hb := argM_bd hF hG x
  have h1 := hF x
  have h2 := hG x
  have hc : (argM F G x).2.1 < (F x : Int) ∨ ((F x : Int) = (argM F G x).2.1 ∧ (argM F G x).2.2 < (G x : Int)) := by
    unfold pmM at h
    by_cases h0 : x = 0
    · subst h0; exact Or.inl (by show (-1 : Int) < _; omega)
    · rw [if_neg h0] at h
      have hp := argM_pos (F := F) (G := G) (x - 1)
      rw [show x - 1 + 1 = x from by omega] at hp
      omega
  refine ⟨argM_t hc, ?_⟩
  unfold pmM
  rw [if_neg (by omega), argM_t hc]
  dsimp only; omega
theorem pmM_le {F G : Nat → Nat} {x : Nat} (hF : ∀ x, F x ≤ 12) (hG : ∀ x, G x ≤ 12) (h : ((100 * F x + G x : Nat) : Int) ≤ pmM F G x) : argM F G (x + 1) = argM F G x ∧ pmM F G (x + 1) = pmM F G x := by
  have hb := argM_bd hF hG x
  have h1 := hF x
  have h2 := hG x
  unfold pmM at h
  by_cases h0 : x = 0
  · rw [if_pos h0] at h; omega
  · rw [if_neg h0] at h
    have hp := argM_pos (F := F) (G := G) (x - 1)
    rw [show x - 1 + 1 = x from by omega] at hp
    have hc : ¬ ((argM F G x).2.1 < (F x : Int) ∨ ((F x : Int) = (argM F G x).2.1 ∧ (argM F G x).2.2 < (G x : Int))) := by omega
    refine ⟨argM_f hc, ?_⟩
    unfold pmM
    rw [if_neg (by omega), if_neg h0, argM_f hc]
theorem pmM_bd {F G : Nat → Nat} (hF : ∀ x, F x ≤ 12) (hG : ∀ x, G x ≤ 12) (x : Nat) : -4 ≤ pmM F G x ∧ pmM F G x ≤ 1300 := by
  have hb := argM_bd hF hG x
  unfold pmM
  by_cases h0 : x = 0
  · rw [if_pos h0]; omega
  · rw [if_neg h0]
    have hp := argM_pos (F := F) (G := G) (x - 1)
    rw [show x - 1 + 1 = x from by omega] at hp
    omega
theorem pmM_41 (F G : Nat → Nat) : pmM F G 41 = ((100 * F (argM F G 41).1 + G (argM F G 41).1 : Nat) : Int) := by
  obtain ⟨m, hm⟩ : ∃ m, m + 1 = 41 := ⟨40, rfl⟩
  rw [← hm]
  have h := argM_val (F := F) (G := G) m
  unfold pmM
  rw [if_neg (by omega), h.1, h.2]
  omega

set_option maxRecDepth 100000 in
set_option maxHeartbeats 4000000 in
theorem c_X7_rentOf (l : Launch) (D : va_G) (cI cC : ClassId) (rr : Nat) (ad : Nat → Nat) (len : Nat) (kp : Nat) (uo : Nat) (tm : Nat) (em : Nat) (pc0 : Nat) (fm : Nat → Nat) (pq : Nat → Nat) (dq : Nat → Nat) (kq : Nat → Nat) (ai : Nat → Nat) (sna : Nat → Nat) (wma : Nat → Nat) (be : Nat → Nat) (va : Nat → Nat) (lo : Nat → Nat) (lg : Nat → Nat) (vg : Nat → Nat) (cl : Nat → Nat) (hrc : relC pq dq kq cl (fm 0)) (hok : okC cl (fm 0)) (hfm : fm 0 ≤ 4 ∧ ai 0 ≤ 99 ∧ sna 0 < 2147483648) (wd : Nat → Nat) (hrd : relD be va lo wd (wma 0)) (hokd : okD wd (wma 0)) (hnw : wma 0 ≤ 8) (x : Nat) (hx4 : x ≤ 40) : mtI l D cI cC yX7_rentOf wsX7_rentOf ({ frames := 4, cells := 0, slots := 0, locals := 98 }) [.ref rr, .int (nI x)] [(rr, eMod ad len kp uo tm em pc0), (ad 2, eArr cI 2 fm), (ad 3, eArr cI 8 pq), (ad 4, eArr cI 8 dq), (ad 5, eArr cI 8 kq), (ad 6, eArr cI 2 ai), (ad 13, eArr cI 4 sna), (ad 7, eArr cI 4 wma), (ad 8, eArr cI 32 be), (ad 9, eArr cI 32 va), (ad 10, eArr cI 32 lo), (ad 20, eArr cI 150 lg), (ad 21, eArr cI 150 vg)] (fun (r : Int32) (_ : Unit) => r = (nI (rentM cl (fm 0) (ai 0) (sna 0) wd (wma 0) x))) (fun (_ : Unit) => [(rr, eMod ad len kp uo tm em pc0), (ad 2, eArr cI 2 fm), (ad 3, eArr cI 8 pq), (ad 4, eArr cI 8 dq), (ad 5, eArr cI 8 kq), (ad 6, eArr cI 2 ai), (ad 13, eArr cI 4 sna), (ad 7, eArr cI 4 wma), (ad 8, eArr cI 32 be), (ad 9, eArr cI 32 va), (ad 10, eArr cI 32 lo), (ad 20, eArr cI 150 ((hearM cl (fm 0) (ai 0) (sna 0) wd (wma 0) x x (2 ^ (wma 0) - 1)).1)), (ad 21, eArr cI 150 ((hearM cl (fm 0) (ai 0) (sna 0) wd (wma 0) x x (2 ^ (wma 0) - 1)).2))]) := by
  refine mtI_of (cc := cX7_rentOf) (maxL := 4) (ret := (some .int)) (by decide) rfl rfl ?_
  intro p e s m below meth c A hx hb hml hr hts hown hlocks hN hA hK hP hD hS ls hl
  have hown : s.vm.findClass RX7 = some m.cls := hown
  have hl : lv_has ls 4 [(0, .ref rr), (1, .int (nI x))] := hl
  obtain ⟨H, hHe⟩ : ∃ H, H = s.heap := ⟨_, rfl⟩
  rw [← hHe] at hP ⊢
  have hS : va_S A s.heap H [] := by rw [hHe]; exact va_S.rf
  have fl28 := hts (.fieldLink RX7 28 "EchoPaysRentModel" "wordMany" "[I") (by decide +kernel)
  have inX7 : ∀ w ∈ wsX70, w ∈ wsX7_rentOf := by decide +kernel
  refine lv_aload_n hx hb dX7_rentOf_0 rfl (lv_at hl 0 rfl) ?_
  refine lv_iload_n hx hb dX7_rentOf_1 rfl (lv_at hl 1 rfl) ?_
  refine lv_iload_n hx hb dX7_rentOf_2 rfl (lv_at hl 1 rfl) ?_
  refine lv_iconst (v := (nI 0)) hx hb dX7_rentOf_3 (by decide) ?_
  refine k_Vv (q := (RX7, TX7, 28)) (ci := 7) (As := [.int (nI x), .int (nI x), .int (nI 0)]) (wr := []) ⟨hx, hb, hml, hown, hts⟩ (c_X7_sayAll l D cI cC rr ad len kp uo tm em pc0 fm pq dq kq ai sna wma be va lo cl hrc hok (by omega) wd hrd hokd (by omega) x x ⟨by omega, by omega⟩ 0 (Nat.two_pow_pos _) lg vg) (cwV 3 hts gX7_rentOf_X7_sayAll rfl rfl rfl (by decide +kernel) ⟨Nat.le_of_ble_eq_true rfl, Nat.le_of_ble_eq_true rfl⟩) rfl hl.1 rfl (Nat.le_of_ble_eq_true rfl) dX7_rentOf_4 ⟨Nat.zero_le _, Nat.zero_le _⟩ hN hK hP hD hS hA rfl (q0 := 0) rfl [0, 1, 2, 3, 4, 5, 6, 7, 8, 9, 10, 11, 12] [] rfl rfl ⟨rfl, rfl, by decide⟩ (fun u H locs w2 hP hD hS => ?_)
  have hP : va_P D vwCl [(rr, eMod ad len kp uo tm em pc0), (ad 2, eArr cI 2 fm), (ad 3, eArr cI 8 pq), (ad 4, eArr cI 8 dq), (ad 5, eArr cI 8 kq), (ad 6, eArr cI 2 ai), (ad 13, eArr cI 4 sna), (ad 7, eArr cI 4 wma), (ad 8, eArr cI 32 be), (ad 9, eArr cI 32 va), (ad 10, eArr cI 32 lo), (ad 20, eArr cI 150 ((hearM cl (fm 0) (ai 0) (sna 0) wd (wma 0) x x (2 ^ (wma 0) - 1)).1)), (ad 21, eArr cI 150 ((hearM cl (fm 0) (ai 0) (sna 0) wd (wma 0) x x (2 ^ (wma 0) - 1)).2))] H := by rw [show 2 ^ (wma 0) - 1 = 2 ^ (wma 0) - 1 - 0 from rfl]; exact hP
  have hD : va_D A [(rr, eMod ad len kp uo tm em pc0), (ad 2, eArr cI 2 fm), (ad 3, eArr cI 8 pq), (ad 4, eArr cI 8 dq), (ad 5, eArr cI 8 kq), (ad 6, eArr cI 2 ai), (ad 13, eArr cI 4 sna), (ad 7, eArr cI 4 wma), (ad 8, eArr cI 32 be), (ad 9, eArr cI 32 va), (ad 10, eArr cI 32 lo), (ad 20, eArr cI 150 ((hearM cl (fm 0) (ai 0) (sna 0) wd (wma 0) x x (2 ^ (wma 0) - 1)).1)), (ad 21, eArr cI 150 ((hearM cl (fm 0) (ai 0) (sna 0) wd (wma 0) x x (2 ^ (wma 0) - 1)).2))] := by rw [show 2 ^ (wma 0) - 1 = 2 ^ (wma 0) - 1 - 0 from rfl]; exact hD
  refine lv_iconst (v := (nI 0)) hx hb dX7_rentOf_7 (by decide) ?_
  refine lv_istore_n (lv' := [(2, .int (nI 0)), (0, .ref rr), (1, .int (nI x))]) hx hb dX7_rentOf_8 rfl hl (by decide) rfl (fun ls hl => ?_)
  refine lv_iconst (v := (nI 0)) hx hb dX7_rentOf_9 (by decide) ?_
  refine lv_istore_n (lv' := [(3, .int (nI 0)), (2, .int (nI 0)), (0, .ref rr), (1, .int (nI x))]) hx hb dX7_rentOf_10 rfl hl (by decide) rfl (fun ls hl => ?_)
  have loop11 : ∀ (nn11 : Nat) (w : Nat), wma 0 - w < nn11 → (w ≤ wma 0) → ∀ (H : Heap) (locs : List Loc), va_P D vwCl [(rr, eMod ad len kp uo tm em pc0), (ad 2, eArr cI 2 fm), (ad 3, eArr cI 8 pq), (ad 4, eArr cI 8 dq), (ad 5, eArr cI 8 kq), (ad 6, eArr cI 2 ai), (ad 13, eArr cI 4 sna), (ad 7, eArr cI 4 wma), (ad 8, eArr cI 32 be), (ad 9, eArr cI 32 va), (ad 10, eArr cI 32 lo), (ad 20, eArr cI 150 ((hearM cl (fm 0) (ai 0) (sna 0) wd (wma 0) x x (2 ^ (wma 0) - 1)).1)), (ad 21, eArr cI 150 ((hearM cl (fm 0) (ai 0) (sna 0) wd (wma 0) x x (2 ^ (wma 0) - 1)).2))] H → va_D A [(rr, eMod ad len kp uo tm em pc0), (ad 2, eArr cI 2 fm), (ad 3, eArr cI 8 pq), (ad 4, eArr cI 8 dq), (ad 5, eArr cI 8 kq), (ad 6, eArr cI 2 ai), (ad 13, eArr cI 4 sna), (ad 7, eArr cI 4 wma), (ad 8, eArr cI 32 be), (ad 9, eArr cI 32 va), (ad 10, eArr cI 32 lo), (ad 20, eArr cI 150 ((hearM cl (fm 0) (ai 0) (sna 0) wd (wma 0) x x (2 ^ (wma 0) - 1)).1)), (ad 21, eArr cI 150 ((hearM cl (fm 0) (ai 0) (sna 0) wd (wma 0) x x (2 ^ (wma 0) - 1)).2))] → va_S A s.heap H locs → ∀ ls : Array Slot, lv_has ls 4 [(3, .int (nI w)), (2, .int (nI (cntM (fun w => backM (hearM cl (fm 0) (ai 0) (sna 0) wd (wma 0) x x (2 ^ (wma 0) - 1)) wd w (waysM cl (ai 0) (sna 0) x x (fm 0))) w))), (0, .ref rr), (1, .int (nI x))] → W p l e (headSpec wsX7_rentOf ({ frames := 4, cells := 0, slots := 0, locals := 98 })).room s m ([.ref rr, .int (nI x)] : List Value).toArray below meth c H locs 0 0 (MQ below (va_Qi (fun (r : Int32) (_ : Unit) => r = (nI (rentM cl (fm 0) (ai 0) (sna 0) wd (wma 0) x))) (ctB D cI cC (fun (_ : Unit) => [(rr, eMod ad len kp uo tm em pc0), (ad 2, eArr cI 2 fm), (ad 3, eArr cI 8 pq), (ad 4, eArr cI 8 dq), (ad 5, eArr cI 8 kq), (ad 6, eArr cI 2 ai), (ad 13, eArr cI 4 sna), (ad 7, eArr cI 4 wma), (ad 8, eArr cI 32 be), (ad 9, eArr cI 32 va), (ad 10, eArr cI 32 lo), (ad 20, eArr cI 150 ((hearM cl (fm 0) (ai 0) (sna 0) wd (wma 0) x x (2 ^ (wma 0) - 1)).1)), (ad 21, eArr cI 150 ((hearM cl (fm 0) (ai 0) (sna 0) wd (wma 0) x x (2 ^ (wma 0) - 1)).2))]) A) A) ([.ref rr, .int (nI x)] : List Value).toArray s 0 0 A) (F0 m 11 ls []) := by
    intro nn11
    induction nn11 with
    | zero =>
      intro w hm3
      exact absurd hm3 (Nat.not_lt_zero _)
    | succ nn11 ih11 =>
      intro w hm3 hi4 H locs hP hD hS ls hl
      refine lv_iload_n hx hb dX7_rentOf_11 rfl (lv_at hl 0 rfl) ?_
      refine lv_aload_n hx hb dX7_rentOf_12 rfl (lv_at hl 2 rfl) ?_
      refine va_get (D := D) (ci := 7) (v := .ref (ad 7)) (C := RX7) (T := TX7) (N := 28) hx hb hts inX7 hown hK hP 0 rfl rfl 7 (by decide) fl28 (fun _ h9 => h9) rfl dX7_rentOf_13 ?_
      refine lv_iconst (v := (nI 0)) hx hb dX7_rentOf_16 (by decide) ?_
      refine x_iald (A := A) hx hb hK hP 7 0 rfl rfl dX7_rentOf_17 (by omega) (by omega) ?_
      refine x_icmp_ge (tgt := 44) hx hb dX7_rentOf_18 (by decide) (by omega) (by omega) (fun h5 => ?_) (fun h5 => ?_)
      · have ew : cntM (fun w => backM (hearM cl (fm 0) (ai 0) (sna 0) wd (wma 0) x x (2 ^ (wma 0) - 1)) wd w (waysM cl (ai 0) (sna 0) x x (fm 0))) w = rentM cl (fm 0) (ai 0) (sna 0) wd (wma 0) x := by rw [show w = wma 0 from by omega]; rfl
        rw [ew] at hl
        refine lv_iload_n hx hb dX7_rentOf_44 rfl (lv_at hl 1 rfl) ?_
        exact x_iret hx hb hr hlocks dX7_rentOf_45 rfl (post := fun (r : Int32) (_ : Unit) => r = (nI (rentM cl (fm 0) (ai 0) (sna 0) wd (wma 0) x))) (w1 := fun (_ : Unit) => [(rr, eMod ad len kp uo tm em pc0), (ad 2, eArr cI 2 fm), (ad 3, eArr cI 8 pq), (ad 4, eArr cI 8 dq), (ad 5, eArr cI 8 kq), (ad 6, eArr cI 2 ai), (ad 13, eArr cI 4 sna), (ad 7, eArr cI 4 wma), (ad 8, eArr cI 32 be), (ad 9, eArr cI 32 va), (ad 10, eArr cI 32 lo), (ad 20, eArr cI 150 ((hearM cl (fm 0) (ai 0) (sna 0) wd (wma 0) x x (2 ^ (wma 0) - 1)).1)), (ad 21, eArr cI 150 ((hearM cl (fm 0) (ai 0) (sna 0) wd (wma 0) x x (2 ^ (wma 0) - 1)).2))]) () rfl hK hP hD hS
      · refine lv_iload_n hx hb dX7_rentOf_21 rfl (lv_at hl 1 rfl) ?_
        refine lv_aload_n hx hb dX7_rentOf_22 rfl (lv_at hl 2 rfl) ?_
        refine lv_iload_n hx hb dX7_rentOf_23 rfl (lv_at hl 0 rfl) ?_
        refine lv_iload_n hx hb dX7_rentOf_24 rfl (lv_at hl 3 rfl) ?_
        refine k_V (q := (RX7, TX7, 28)) (ci := 7) (As := [.int (nI w), .int (nI x)]) (wr := [(ad 7, eArr cI 4 wma), (ad 20, eArr cI 150 ((hearM cl (fm 0) (ai 0) (sna 0) wd (wma 0) x x (2 ^ (wma 0) - 1)).1))]) ⟨hx, hb, hml, hown, hts⟩ (c_X7_paysFor l D cI cC rr ad len kp uo tm em pc0 fm pq dq kq ai sna be va lo (hearM cl (fm 0) (ai 0) (sna 0) wd (wma 0) x x (2 ^ (wma 0) - 1)) cl hrc hok (by omega) (wma 0) wd hrd hokd w x (by omega) (by omega) (okS_play okS_quiet hokd _ (Nat.le_refl _)) (by omega)) (cwV 2 hts gX7_rentOf_X7_paysFor rfl rfl rfl (by decide +kernel) ⟨Nat.le_of_ble_eq_true rfl, Nat.le_of_ble_eq_true rfl⟩) rfl hl.1 rfl (Nat.le_of_ble_eq_true rfl) dX7_rentOf_25 ⟨Nat.zero_le _, Nat.zero_le _⟩ hN hK hP hD hS hA rfl (q0 := 0) rfl [0, 1, 2, 3, 4, 5, 6, 8, 9, 10, 12] [7, 11] rfl rfl ⟨rfl, rfl, by decide⟩ (fun r6 u H locs w7 hP hD hS => ?_)
        obtain ⟨rfl, h8⟩ | ⟨rfl, h9⟩ : (r6 = (nI 1) ∧ backM (hearM cl (fm 0) (ai 0) (sna 0) wd (wma 0) x x (2 ^ (wma 0) - 1)) wd w (waysM cl (ai 0) (sna 0) x x (fm 0)) = true) ∨ (r6 = (nI 0) ∧ backM (hearM cl (fm 0) (ai 0) (sna 0) wd (wma 0) x x (2 ^ (wma 0) - 1)) wd w (waysM cl (ai 0) (sna 0) x x (fm 0)) = false) := w7
        · refine x_if_eq (tgt := 35) hx hb dX7_rentOf_28 (by decide) (by omega) (fun h10 => False.elim (by omega)) (fun h10 => ?_)
          refine lv_iconst (v := (nI 1)) hx hb dX7_rentOf_31 (by decide) ?_
          refine lv_goto (tgt := 36) hx hb dX7_rentOf_32 (by decide) ?_
          refine x_iadd hx hb dX7_rentOf_36 ?_
          refine lv_istore_n (lv' := [(2, .int (nI (cntM (fun w => backM (hearM cl (fm 0) (ai 0) (sna 0) wd (wma 0) x x (2 ^ (wma 0) - 1)) wd w (waysM cl (ai 0) (sna 0) x x (fm 0))) w + 1))), (3, .int (nI w)), (0, .ref rr), (1, .int (nI x))]) hx hb dX7_rentOf_37 rfl hl (by decide) rfl (fun ls hl => ?_)
          refine lv_iinc (v := (nI (w + 1))) (lv' := [(3, .int (nI (w + 1))), (2, .int (nI (cntM (fun w => backM (hearM cl (fm 0) (ai 0) (sna 0) wd (wma 0) x x (2 ^ (wma 0) - 1)) wd w (waysM cl (ai 0) (sna 0) x x (fm 0))) w + 1))), (0, .ref rr), (1, .int (nI x))]) hx hb dX7_rentOf_38 hl (k := 1) rfl (nI_inc _ 1) (by decide) rfl (fun ls hl => ?_)
          refine lv_goto (tgt := 11) hx hb dX7_rentOf_41 (by decide) ?_
          rw [show nI (cntM (fun w => backM (hearM cl (fm 0) (ai 0) (sna 0) wd (wma 0) x x (2 ^ (wma 0) - 1)) wd w (waysM cl (ai 0) (sna 0) x x (fm 0))) w + 1) = nI (cntM (fun w => backM (hearM cl (fm 0) (ai 0) (sna 0) wd (wma 0) x x (2 ^ (wma 0) - 1)) wd w (waysM cl (ai 0) (sna 0) x x (fm 0))) (w + 1)) from by rw [cntM_t (c := (fun w => backM (hearM cl (fm 0) (ai 0) (sna 0) wd (wma 0) x x (2 ^ (wma 0) - 1)) wd w (waysM cl (ai 0) (sna 0) x x (fm 0)))) h8]] at hl
          exact ih11 (w + 1) (by omega) (by omega) _ _ (hP.sub [2, 3, 4, 5, 6, 7, 8, 0, 9, 10, 11, 1, 12] rfl) (hD.sub [2, 3, 4, 5, 6, 7, 8, 0, 9, 10, 11, 1, 12] rfl rfl) hS _ (lv_sub hl [0, 1, 2, 3] rfl)
        · refine x_if_eq (tgt := 35) hx hb dX7_rentOf_28 (by decide) (by omega) (fun h11 => ?_) (fun h11 => False.elim (by omega))
          refine lv_iconst (v := (nI 0)) hx hb dX7_rentOf_35 (by decide) ?_
          refine x_iadd hx hb dX7_rentOf_36 ?_
          refine lv_istore_n (lv' := [(2, .int (nI (cntM (fun w => backM (hearM cl (fm 0) (ai 0) (sna 0) wd (wma 0) x x (2 ^ (wma 0) - 1)) wd w (waysM cl (ai 0) (sna 0) x x (fm 0))) w + 0))), (3, .int (nI w)), (0, .ref rr), (1, .int (nI x))]) hx hb dX7_rentOf_37 rfl hl (by decide) rfl (fun ls hl => ?_)
          refine lv_iinc (v := (nI (w + 1))) (lv' := [(3, .int (nI (w + 1))), (2, .int (nI (cntM (fun w => backM (hearM cl (fm 0) (ai 0) (sna 0) wd (wma 0) x x (2 ^ (wma 0) - 1)) wd w (waysM cl (ai 0) (sna 0) x x (fm 0))) w + 0))), (0, .ref rr), (1, .int (nI x))]) hx hb dX7_rentOf_38 hl (k := 1) rfl (nI_inc _ 1) (by decide) rfl (fun ls hl => ?_)
          refine lv_goto (tgt := 11) hx hb dX7_rentOf_41 (by decide) ?_
          rw [show nI (cntM (fun w => backM (hearM cl (fm 0) (ai 0) (sna 0) wd (wma 0) x x (2 ^ (wma 0) - 1)) wd w (waysM cl (ai 0) (sna 0) x x (fm 0))) w + 0) = nI (cntM (fun w => backM (hearM cl (fm 0) (ai 0) (sna 0) wd (wma 0) x x (2 ^ (wma 0) - 1)) wd w (waysM cl (ai 0) (sna 0) x x (fm 0))) (w + 1)) from by rw [Nat.add_zero, cntM_f (c := (fun w => backM (hearM cl (fm 0) (ai 0) (sna 0) wd (wma 0) x x (2 ^ (wma 0) - 1)) wd w (waysM cl (ai 0) (sna 0) x x (fm 0)))) h9]] at hl
          exact ih11 (w + 1) (by omega) (by omega) _ _ (hP.sub [2, 3, 4, 5, 6, 7, 8, 0, 9, 10, 11, 1, 12] rfl) (hD.sub [2, 3, 4, 5, 6, 7, 8, 0, 9, 10, 11, 1, 12] rfl rfl) hS _ (lv_sub hl [0, 1, 2, 3] rfl)
  exact loop11 _ 0 (Nat.lt_succ_self _) (by omega) _ _ (hP.sub [0, 1, 2, 3, 4, 5, 6, 7, 8, 9, 10, 11, 12] rfl) (hD.sub [0, 1, 2, 3, 4, 5, 6, 7, 8, 9, 10, 11, 12] rfl rfl) hS _ (lv_sub hl [0, 1, 2, 3] rfl)

set_option maxRecDepth 100000 in
set_option maxHeartbeats 4000000 in
theorem c_X7_rent (l : Launch) (D : va_G) (cI cC : ClassId) (rr : Nat) (ad : Nat → Nat) (len : Nat) (kp : Nat) (uo : Nat) (tm : Nat) (em : Nat) (pc0 : Nat) (fm : Nat → Nat) (pq : Nat → Nat) (dq : Nat → Nat) (kq : Nat → Nat) (ai : Nat → Nat) (sna : Nat → Nat) (wma : Nat → Nat) (be : Nat → Nat) (va : Nat → Nat) (lo : Nat → Nat) (spa : Nat → Nat) (lg : Nat → Nat) (vg : Nat → Nat) (cl : Nat → Nat) (hrc : relC pq dq kq cl (fm 0)) (hok : okC cl (fm 0)) (hfm : fm 0 ≤ 4 ∧ ai 0 ≤ 99 ∧ sna 0 < 2147483648) (wd : Nat → Nat) (hrd : relD be va lo wd (wma 0)) (hokd : okD wd (wma 0)) (hnw : wma 0 ≤ 8) (hsp : spa 0 ≤ 40) : mtI l D cI cC yX7_rent wsX7_rent ({ frames := 5, cells := 0, slots := 0, locals := 121 }) [.ref rr] [(rr, eMod ad len kp uo tm em pc0), (ad 2, eArr cI 2 fm), (ad 3, eArr cI 8 pq), (ad 4, eArr cI 8 dq), (ad 5, eArr cI 8 kq), (ad 6, eArr cI 2 ai), (ad 13, eArr cI 4 sna), (ad 7, eArr cI 4 wma), (ad 8, eArr cI 32 be), (ad 9, eArr cI 32 va), (ad 10, eArr cI 32 lo), (ad 11, eArr cI 4 spa), (ad 20, eArr cI 150 lg), (ad 21, eArr cI 150 vg)] (fun (r : Int32) (_ : Unit) => r = (nI (rentM cl (fm 0) (ai 0) (sna 0) wd (wma 0) (spa 0)))) (fun (_ : Unit) => [(rr, eMod ad len kp uo tm em pc0), (ad 2, eArr cI 2 fm), (ad 3, eArr cI 8 pq), (ad 4, eArr cI 8 dq), (ad 5, eArr cI 8 kq), (ad 6, eArr cI 2 ai), (ad 13, eArr cI 4 sna), (ad 7, eArr cI 4 wma), (ad 8, eArr cI 32 be), (ad 9, eArr cI 32 va), (ad 10, eArr cI 32 lo), (ad 11, eArr cI 4 spa), (ad 20, eArr cI 150 ((hearM cl (fm 0) (ai 0) (sna 0) wd (wma 0) (spa 0) (spa 0) (2 ^ (wma 0) - 1)).1)), (ad 21, eArr cI 150 ((hearM cl (fm 0) (ai 0) (sna 0) wd (wma 0) (spa 0) (spa 0) (2 ^ (wma 0) - 1)).2))]) := by
  refine mtI_of (cc := cX7_rent) (maxL := 1) (ret := (some .int)) (by decide) rfl rfl ?_
  intro p e s m below meth c A hx hb hml hr hts hown hlocks hN hA hK hP hD hS ls hl
  have hown : s.vm.findClass RX7 = some m.cls := hown
  have hl : lv_has ls 1 [(0, .ref rr)] := hl
  obtain ⟨H, hHe⟩ : ∃ H, H = s.heap := ⟨_, rfl⟩
  rw [← hHe] at hP ⊢
  have hS : va_S A s.heap H [] := by rw [hHe]; exact va_S.rf
  have fl40 := hts (.fieldLink RX7 40 "EchoPaysRentModel" "speaker" "[I") (by decide +kernel)
  have inX7 : ∀ w ∈ wsX70, w ∈ wsX7_rent := by decide +kernel
  refine lv_aload_n hx hb dX7_rent_0 rfl (lv_at hl 0 rfl) ?_
  refine lv_aload_n hx hb dX7_rent_1 rfl (lv_at hl 0 rfl) ?_
  refine va_get (D := D) (ci := 7) (v := .ref (ad 11)) (C := RX7) (T := TX7) (N := 28) hx hb hts inX7 hown hK hP 0 rfl rfl 11 (by decide) fl40 (fun _ h9 => h9) rfl dX7_rent_2 ?_
  refine lv_iconst (v := (nI 0)) hx hb dX7_rent_5 (by decide) ?_
  refine x_iald (A := A) hx hb hK hP 11 0 rfl rfl dX7_rent_6 (by omega) (by omega) ?_
  refine k_V (q := (RX7, TX7, 28)) (ci := 7) (As := [.int (nI (spa 0))]) (wr := [(ad 11, eArr cI 4 spa)]) ⟨hx, hb, hml, hown, hts⟩ (c_X7_rentOf l D cI cC rr ad len kp uo tm em pc0 fm pq dq kq ai sna wma be va lo lg vg cl hrc hok (by omega) wd hrd hokd (by omega) (spa 0) (by omega)) (cwV 1 hts gX7_rent_X7_rentOf rfl rfl rfl (by decide +kernel) ⟨Nat.le_of_ble_eq_true rfl, Nat.le_of_ble_eq_true rfl⟩) rfl hl.1 rfl (Nat.le_of_ble_eq_true rfl) dX7_rent_7 ⟨Nat.zero_le _, Nat.zero_le _⟩ hN hK hP hD hS hA rfl (q0 := 0) rfl [0, 1, 2, 3, 4, 5, 6, 7, 8, 9, 10, 12, 13] [11] rfl rfl ⟨rfl, rfl, by decide⟩ (fun r1 u H locs w2 hP hD hS => ?_)
  obtain rfl : r1 = (nI (rentM cl (fm 0) (ai 0) (sna 0) wd (wma 0) (spa 0))) := w2
  exact x_iret hx hb hr hlocks dX7_rent_10 rfl (post := fun (r : Int32) (_ : Unit) => r = (nI (rentM cl (fm 0) (ai 0) (sna 0) wd (wma 0) (spa 0)))) (w1 := fun (_ : Unit) => [(rr, eMod ad len kp uo tm em pc0), (ad 2, eArr cI 2 fm), (ad 3, eArr cI 8 pq), (ad 4, eArr cI 8 dq), (ad 5, eArr cI 8 kq), (ad 6, eArr cI 2 ai), (ad 13, eArr cI 4 sna), (ad 7, eArr cI 4 wma), (ad 8, eArr cI 32 be), (ad 9, eArr cI 32 va), (ad 10, eArr cI 32 lo), (ad 11, eArr cI 4 spa), (ad 20, eArr cI 150 ((hearM cl (fm 0) (ai 0) (sna 0) wd (wma 0) (spa 0) (spa 0) (2 ^ (wma 0) - 1)).1)), (ad 21, eArr cI 150 ((hearM cl (fm 0) (ai 0) (sna 0) wd (wma 0) (spa 0) (spa 0) (2 ^ (wma 0) - 1)).2))]) () rfl hK (hP.sub [1, 2, 3, 4, 5, 6, 7, 8, 9, 10, 11, 0, 12, 13] rfl) (hD.sub [1, 2, 3, 4, 5, 6, 7, 8, 9, 10, 11, 0, 12, 13] rfl rfl) hS

set_option maxRecDepth 100000 in
set_option maxHeartbeats 4000000 in
theorem c_X7_place_bad (l : Launch) (D : va_G) (cI cC : ClassId) (rr : Nat) (ad : Nat → Nat) (len : Nat) (kp : Nat) (uo : Nat) (tm : Nat) (em : Nat) (pc0 : Nat) (z : Int) (hz : -2147483648 ≤ z ∧ z < 2147483648) (hbad : (z < 0 ∨ 3 < z)) : mtI l D cI cC yX7_place wsX7_place ({ frames := 1, cells := 0, slots := 0, locals := 25 }) [.ref rr, .int (iI z)] [(rr, eMod ad len kp uo tm em pc0)] (fun (r : Int32) (_ : Unit) => r = (iI (-1))) (fun (_ : Unit) => [(rr, eMod ad len kp uo tm em pc0)]) := by
  refine mtI_of (cc := cX7_place) (maxL := 7) (ret := (some .int)) (by decide) rfl rfl ?_
  intro p e s m below meth c A hx hb hml hr hts hown hlocks hN hA hK hP hD hS ls hl
  have hown : s.vm.findClass RX7 = some m.cls := hown
  have hl : lv_has ls 7 [(0, .ref rr), (1, .int (iI z))] := hl
  obtain ⟨H, hHe⟩ : ∃ H, H = s.heap := ⟨_, rfl⟩
  rw [← hHe] at hP ⊢
  have hS : va_S A s.heap H [] := by rw [hHe]; exact va_S.rf
  refine lv_iload_n hx hb dX7_place_0 rfl (lv_at hl 1 rfl) ?_
  refine z_i2l hx hb dX7_place_1 (by omega) ?_
  refine lv_lconst (v := lN 0) hx hb dX7_place_2 rfl ?_
  refine lv_ldc2 (v := lN 3) hx hb hown (hts (.constantLong RX7 184 3) (by decide +kernel)) dX7_place_3 ?_
  refine k_S (As := [.long (lI z), .long (lI (((0 : Nat) : Int))), .long (lI (((3 : Nat) : Int)))]) (wr := [(rr, eMod ad len kp uo tm em pc0)]) ⟨hx, hb, hml, hown, hts⟩ (c_X7_in l D cI cC z (((0 : Nat) : Int)) (((3 : Nat) : Int)) (by omega) (by omega) (by omega)) (cwS 3 hts gX7_place_X7_in rfl rfl rfl (by decide +kernel) ⟨Nat.le_of_ble_eq_true rfl, Nat.le_of_ble_eq_true rfl⟩) rfl hl.1 (by simp only [nI_iI, lN_lI]; rfl) (Nat.le_of_ble_eq_true rfl) dX7_place_6 ⟨Nat.zero_le _, Nat.zero_le _⟩ hN hK hP hD hS hA [] [0] rfl rfl ⟨rfl, rfl, by decide⟩ (fun r1 u H locs w2 hP hD hS => ?_)
  obtain ⟨rfl, h3, h4⟩ | ⟨rfl, h5⟩ : (r1 = (nI 1) ∧ (((0 : Nat) : Int)) ≤ z ∧ z ≤ (((3 : Nat) : Int))) ∨ (r1 = (nI 0) ∧ (z < (((0 : Nat) : Int)) ∨ (((3 : Nat) : Int)) < z)) := w2
  · refine x_if_ne (tgt := 14) hx hb dX7_place_9 (by decide) (by omega) (fun h6 => ?_) (fun h6 => False.elim (by omega))
    exact False.elim (by omega)
  · refine x_if_ne (tgt := 14) hx hb dX7_place_9 (by decide) (by omega) (fun h7 => False.elim (by omega)) (fun h7 => ?_)
    refine lv_iconst (v := (iI (-1))) hx hb dX7_place_12 (by decide) ?_
    exact x_iret hx hb hr hlocks dX7_place_13 rfl (post := fun (r : Int32) (_ : Unit) => r = (iI (-1))) (w1 := fun (_ : Unit) => [(rr, eMod ad len kp uo tm em pc0)]) () rfl hK hP hD hS

set_option maxRecDepth 100000 in
set_option maxHeartbeats 4000000 in
theorem c_X7_place_0 (l : Launch) (D : va_G) (cI cC : ClassId) (rr : Nat) (ad : Nat → Nat) (len : Nat) (kp : Nat) (uo : Nat) (tm : Nat) (em : Nat) (pc0 : Nat) (fm : Nat → Nat) (pq : Nat → Nat) (dq : Nat → Nat) (kq : Nat → Nat) (ai : Nat → Nat) (sna : Nat → Nat) (wma : Nat → Nat) (be : Nat → Nat) (va : Nat → Nat) (lo : Nat → Nat) (spa : Nat → Nat) (hea : Nat → Nat) (lg : Nat → Nat) (vg : Nat → Nat) (cl : Nat → Nat) (hrc : relC pq dq kq cl (fm 0)) (hok : okC cl (fm 0)) (hfm : fm 0 ≤ 4 ∧ ai 0 ≤ 99 ∧ sna 0 < 2147483648) (wd : Nat → Nat) (hrd : relD be va lo wd (wma 0)) (hokd : okD wd (wma 0)) (hnw : wma 0 ≤ 8) (hsp : spa 0 ≤ 40 ∧ hea 0 ≤ 40) : mtI l D cI cC yX7_place wsX7_place ({ frames := 5, cells := 0, slots := 0, locals := 121 }) [.ref rr, .int (nI 0)] [(rr, eMod ad len kp uo tm em pc0), (ad 2, eArr cI 2 fm), (ad 3, eArr cI 8 pq), (ad 4, eArr cI 8 dq), (ad 5, eArr cI 8 kq), (ad 6, eArr cI 2 ai), (ad 13, eArr cI 4 sna), (ad 7, eArr cI 4 wma), (ad 8, eArr cI 32 be), (ad 9, eArr cI 32 va), (ad 10, eArr cI 32 lo), (ad 11, eArr cI 4 spa), (ad 12, eArr cI 4 hea), (ad 20, eArr cI 150 lg), (ad 21, eArr cI 150 vg)] (fun (r : Int32) ((lg', vg') : (Nat → Nat) × (Nat → Nat)) => r = (nI ((argM (fun x => cntClr cl (fm 0) (ai 0) (sna 0) wd (wma 0) x (hea 0)) (fun x => rentM cl (fm 0) (ai 0) (sna 0) wd (wma 0) x) 41).1))) (fun ((lg', vg') : (Nat → Nat) × (Nat → Nat)) => [(rr, eMod ad len kp uo tm em pc0), (ad 2, eArr cI 2 fm), (ad 3, eArr cI 8 pq), (ad 4, eArr cI 8 dq), (ad 5, eArr cI 8 kq), (ad 6, eArr cI 2 ai), (ad 13, eArr cI 4 sna), (ad 7, eArr cI 4 wma), (ad 8, eArr cI 32 be), (ad 9, eArr cI 32 va), (ad 10, eArr cI 32 lo), (ad 11, eArr cI 4 spa), (ad 12, eArr cI 4 hea), (ad 20, eArr cI 150 lg'), (ad 21, eArr cI 150 vg')]) := by
  refine mtI_of (cc := cX7_place) (maxL := 7) (ret := (some .int)) (by decide) rfl rfl ?_
  intro p e s m below meth c A hx hb hml hr hts hown hlocks hN hA hK hP hD hS ls hl
  have hown : s.vm.findClass RX7 = some m.cls := hown
  have hl : lv_has ls 7 [(0, .ref rr), (1, .int (nI 0))] := hl
  obtain ⟨H, hHe⟩ : ∃ H, H = s.heap := ⟨_, rfl⟩
  rw [← hHe] at hP ⊢
  have hS : va_S A s.heap H [] := by rw [hHe]; exact va_S.rf
  have fl43 := hts (.fieldLink RX7 43 "EchoPaysRentModel" "hearer" "[I") (by decide +kernel)
  have inX7 : ∀ w ∈ wsX70, w ∈ wsX7_place := by decide +kernel
  refine lv_iload_n hx hb dX7_place_0 rfl (lv_at hl 1 rfl) ?_
  refine n_i2l hx hb dX7_place_1 (by omega) ?_
  refine lv_lconst (v := lN 0) hx hb dX7_place_2 rfl ?_
  refine lv_ldc2 (v := lN 3) hx hb hown (hts (.constantLong RX7 184 3) (by decide +kernel)) dX7_place_3 ?_
  refine k_S (As := [.long (lI (((0 : Nat) : Int))), .long (lI (((0 : Nat) : Int))), .long (lI (((3 : Nat) : Int)))]) (wr := [(rr, eMod ad len kp uo tm em pc0), (ad 2, eArr cI 2 fm), (ad 3, eArr cI 8 pq), (ad 4, eArr cI 8 dq), (ad 5, eArr cI 8 kq), (ad 6, eArr cI 2 ai), (ad 13, eArr cI 4 sna), (ad 7, eArr cI 4 wma), (ad 8, eArr cI 32 be), (ad 9, eArr cI 32 va), (ad 10, eArr cI 32 lo), (ad 11, eArr cI 4 spa), (ad 12, eArr cI 4 hea), (ad 20, eArr cI 150 lg), (ad 21, eArr cI 150 vg)]) ⟨hx, hb, hml, hown, hts⟩ (c_X7_in l D cI cC (((0 : Nat) : Int)) (((0 : Nat) : Int)) (((3 : Nat) : Int)) (by omega) (by omega) (by omega)) (cwS 3 hts gX7_place_X7_in rfl rfl rfl (by decide +kernel) ⟨Nat.le_of_ble_eq_true rfl, Nat.le_of_ble_eq_true rfl⟩) rfl hl.1 (by simp only [nI_iI, lN_lI]; rfl) (Nat.le_of_ble_eq_true rfl) dX7_place_6 ⟨Nat.zero_le _, Nat.zero_le _⟩ hN hK hP hD hS hA [] [0, 1, 2, 3, 4, 5, 6, 7, 8, 9, 10, 11, 12, 13, 14] rfl rfl ⟨rfl, rfl, by decide⟩ (fun r1 u H locs w2 hP hD hS => ?_)
  obtain ⟨rfl, h3, h4⟩ | ⟨rfl, h5⟩ : (r1 = (nI 1) ∧ (((0 : Nat) : Int)) ≤ (((0 : Nat) : Int)) ∧ (((0 : Nat) : Int)) ≤ (((3 : Nat) : Int))) ∨ (r1 = (nI 0) ∧ ((((0 : Nat) : Int)) < (((0 : Nat) : Int)) ∨ (((3 : Nat) : Int)) < (((0 : Nat) : Int)))) := w2
  · refine x_if_ne (tgt := 14) hx hb dX7_place_9 (by decide) (by omega) (fun h6 => ?_) (fun h6 => False.elim (by omega))
    refine lv_iconst (v := (nI 0)) hx hb dX7_place_14 (by decide) ?_
    refine lv_istore_n (lv' := [(2, .int (nI 0)), (0, .ref rr), (1, .int (nI 0))]) hx hb dX7_place_15 rfl hl (by decide) rfl (fun ls hl => ?_)
    refine lv_bipush (v := (iI (-4))) hx hb dX7_place_16 (by decide) ?_
    refine lv_istore_n (lv' := [(3, .int (iI (-4))), (2, .int (nI 0)), (0, .ref rr), (1, .int (nI 0))]) hx hb dX7_place_18 rfl hl (by decide) rfl (fun ls hl => ?_)
    refine lv_iconst (v := (nI 0)) hx hb dX7_place_19 (by decide) ?_
    refine lv_istore (lv' := [(4, .int (nI 0)), (3, .int (iI (-4))), (2, .int (nI 0)), (0, .ref rr), (1, .int (nI 0))]) hx hb dX7_place_20 hl (by decide) rfl (fun ls hl => ?_)
    have loop22 : ∀ (nn22 : Nat) (x : Nat) (lg' : Nat → Nat) (vg' : Nat → Nat), 41 - x < nn22 → (x ≤ 41) → ∀ (H : Heap) (locs : List Loc), va_P D vwCl [(rr, eMod ad len kp uo tm em pc0), (ad 2, eArr cI 2 fm), (ad 3, eArr cI 8 pq), (ad 4, eArr cI 8 dq), (ad 5, eArr cI 8 kq), (ad 6, eArr cI 2 ai), (ad 13, eArr cI 4 sna), (ad 7, eArr cI 4 wma), (ad 8, eArr cI 32 be), (ad 9, eArr cI 32 va), (ad 10, eArr cI 32 lo), (ad 11, eArr cI 4 spa), (ad 12, eArr cI 4 hea), (ad 20, eArr cI 150 lg'), (ad 21, eArr cI 150 vg')] H → va_D A [(rr, eMod ad len kp uo tm em pc0), (ad 2, eArr cI 2 fm), (ad 3, eArr cI 8 pq), (ad 4, eArr cI 8 dq), (ad 5, eArr cI 8 kq), (ad 6, eArr cI 2 ai), (ad 13, eArr cI 4 sna), (ad 7, eArr cI 4 wma), (ad 8, eArr cI 32 be), (ad 9, eArr cI 32 va), (ad 10, eArr cI 32 lo), (ad 11, eArr cI 4 spa), (ad 12, eArr cI 4 hea), (ad 20, eArr cI 150 lg'), (ad 21, eArr cI 150 vg')] → va_S A s.heap H locs → ∀ ls : Array Slot, lv_has ls 7 [(4, .int (nI x)), (2, .int (nI ((argM (fun x => cntClr cl (fm 0) (ai 0) (sna 0) wd (wma 0) x (hea 0)) (fun x => rentM cl (fm 0) (ai 0) (sna 0) wd (wma 0) x) x).1))), (3, .int (iI (pmM (fun x => cntClr cl (fm 0) (ai 0) (sna 0) wd (wma 0) x (hea 0)) (fun x => rentM cl (fm 0) (ai 0) (sna 0) wd (wma 0) x) x))), (0, .ref rr), (1, .int (nI 0))] → W p l e (headSpec wsX7_place ({ frames := 5, cells := 0, slots := 0, locals := 121 })).room s m ([.ref rr, .int (nI 0)] : List Value).toArray below meth c H locs 0 0 (MQ below (va_Qi (fun (r : Int32) ((lg', vg') : (Nat → Nat) × (Nat → Nat)) => r = (nI ((argM (fun x => cntClr cl (fm 0) (ai 0) (sna 0) wd (wma 0) x (hea 0)) (fun x => rentM cl (fm 0) (ai 0) (sna 0) wd (wma 0) x) 41).1))) (ctB D cI cC (fun ((lg', vg') : (Nat → Nat) × (Nat → Nat)) => [(rr, eMod ad len kp uo tm em pc0), (ad 2, eArr cI 2 fm), (ad 3, eArr cI 8 pq), (ad 4, eArr cI 8 dq), (ad 5, eArr cI 8 kq), (ad 6, eArr cI 2 ai), (ad 13, eArr cI 4 sna), (ad 7, eArr cI 4 wma), (ad 8, eArr cI 32 be), (ad 9, eArr cI 32 va), (ad 10, eArr cI 32 lo), (ad 11, eArr cI 4 spa), (ad 12, eArr cI 4 hea), (ad 20, eArr cI 150 lg'), (ad 21, eArr cI 150 vg')]) A) A) ([.ref rr, .int (nI 0)] : List Value).toArray s 0 0 A) (F0 m 22 ls []) := by
      intro nn22
      induction nn22 with
      | zero =>
        intro x lg' vg' hm7
        exact absurd hm7 (Nat.not_lt_zero _)
      | succ nn22 ih22 =>
        intro x lg' vg' hm7 hi8 H locs hP hD hS ls hl
        refine lv_iload hx hb dX7_place_22 (lv_at hl 0 rfl) ?_
        refine lv_bipush (v := (nI 40)) hx hb dX7_place_24 (by decide) ?_
        refine x_icmp_gt (tgt := 118) hx hb dX7_place_26 (by decide) (by omega) (by omega) (fun h9 => ?_) (fun h9 => ?_)
        · obtain rfl : x = 41 := by omega
          refine lv_iload_n hx hb dX7_place_118 rfl (lv_at hl 4 rfl) ?_
          refine lv_iconst (v := (nI 2)) hx hb dX7_place_119 (by decide) ?_
          refine x_irem hx hb dX7_place_120 (by omega) (by omega) (by omega) ?_
          refine x_if_ne (tgt := 128) hx hb dX7_place_121 (by decide) (by omega) (fun h10 => False.elim (by omega)) (fun h10 => ?_)
          refine lv_iload_n hx hb dX7_place_124 rfl (lv_at hl 1 rfl) ?_
          refine lv_goto (tgt := 132) hx hb dX7_place_125 (by decide) ?_
          exact x_iret hx hb hr hlocks dX7_place_132 rfl (post := fun (r : Int32) ((lg', vg') : (Nat → Nat) × (Nat → Nat)) => r = (nI ((argM (fun x => cntClr cl (fm 0) (ai 0) (sna 0) wd (wma 0) x (hea 0)) (fun x => rentM cl (fm 0) (ai 0) (sna 0) wd (wma 0) x) 41).1))) (w1 := fun ((lg', vg') : (Nat → Nat) × (Nat → Nat)) => [(rr, eMod ad len kp uo tm em pc0), (ad 2, eArr cI 2 fm), (ad 3, eArr cI 8 pq), (ad 4, eArr cI 8 dq), (ad 5, eArr cI 8 kq), (ad 6, eArr cI 2 ai), (ad 13, eArr cI 4 sna), (ad 7, eArr cI 4 wma), (ad 8, eArr cI 32 be), (ad 9, eArr cI 32 va), (ad 10, eArr cI 32 lo), (ad 11, eArr cI 4 spa), (ad 12, eArr cI 4 hea), (ad 20, eArr cI 150 lg'), (ad 21, eArr cI 150 vg')]) (lg', vg') rfl hK hP hD hS
        · have hpb := pmM_bd (F := (fun x => cntClr cl (fm 0) (ai 0) (sna 0) wd (wma 0) x (hea 0))) (G := (fun x => rentM cl (fm 0) (ai 0) (sna 0) wd (wma 0) x)) (fun q => cntClr_le _ _ _ _ _ _ _ _) (fun q => Nat.le_trans (rentM_le _ _ _ _ _ _ _) (by omega)) x
          have hcl := cntClr_le cl (fm 0) (ai 0) (sna 0) wd (wma 0) x (hea 0)
          have hrn := rentM_le cl (fm 0) (ai 0) (sna 0) wd (wma 0) x
          refine lv_iload_n hx hb dX7_place_29 rfl (lv_at hl 4 rfl) ?_
          refine lv_iconst (v := (nI 2)) hx hb dX7_place_30 (by decide) ?_
          refine x_icmp_ge (tgt := 49) hx hb dX7_place_31 (by decide) (by omega) (by omega) (fun h11 => False.elim (by omega)) (fun h11 => ?_)
          refine lv_aload_n hx hb dX7_place_34 rfl (lv_at hl 3 rfl) ?_
          refine lv_iload hx hb dX7_place_35 (lv_at hl 0 rfl) ?_
          refine lv_aload_n hx hb dX7_place_37 rfl (lv_at hl 3 rfl) ?_
          refine va_get (D := D) (ci := 7) (v := .ref (ad 12)) (C := RX7) (T := TX7) (N := 28) hx hb hts inX7 hown hK hP 0 rfl rfl 12 (by decide) fl43 (fun _ h9 => h9) rfl dX7_place_38 ?_
          refine lv_iconst (v := (nI 0)) hx hb dX7_place_41 (by decide) ?_
          refine x_iald (A := A) hx hb hK hP 12 0 rfl rfl dX7_place_42 (by omega) (by omega) ?_
          refine k_V (q := (RX7, TX7, 28)) (ci := 7) (As := [.int (nI x), .int (nI (hea 0))]) (wr := [(ad 11, eArr cI 4 spa), (ad 12, eArr cI 4 hea)]) ⟨hx, hb, hml, hown, hts⟩ (c_X7_clearMany l D cI cC rr ad len kp uo tm em pc0 fm pq dq kq ai sna wma be va lo lg' vg' cl hrc hok (by omega) wd hrd hokd (by omega) x (hea 0) (by omega)) (cwV 2 hts gX7_place_X7_clearMany rfl rfl rfl (by decide +kernel) ⟨Nat.le_of_ble_eq_true rfl, Nat.le_of_ble_eq_true rfl⟩) rfl hl.1 rfl (Nat.le_of_ble_eq_true rfl) dX7_place_43 ⟨Nat.zero_le _, Nat.zero_le _⟩ hN hK hP hD hS hA rfl (q0 := 0) rfl [0, 1, 2, 3, 4, 5, 6, 7, 8, 9, 10, 13, 14] [11, 12] rfl rfl ⟨rfl, rfl, by decide⟩ (fun r12 u H locs w13 hP hD hS => ?_)
          obtain rfl : r12 = (nI (cntClr cl (fm 0) (ai 0) (sna 0) wd (wma 0) x (hea 0))) := w13
          refine lv_goto (tgt := 61) hx hb dX7_place_46 (by decide) ?_
          refine lv_istore (lv' := [(5, .int (nI (cntClr cl (fm 0) (ai 0) (sna 0) wd (wma 0) x (hea 0)))), (4, .int (nI x)), (2, .int (nI ((argM (fun x => cntClr cl (fm 0) (ai 0) (sna 0) wd (wma 0) x (hea 0)) (fun x => rentM cl (fm 0) (ai 0) (sna 0) wd (wma 0) x) x).1))), (3, .int (iI (pmM (fun x => cntClr cl (fm 0) (ai 0) (sna 0) wd (wma 0) x (hea 0)) (fun x => rentM cl (fm 0) (ai 0) (sna 0) wd (wma 0) x) x))), (0, .ref rr), (1, .int (nI 0))]) hx hb dX7_place_61 hl (by decide) rfl (fun ls hl => ?_)
          refine lv_bipush (v := (nI 100)) hx hb dX7_place_63 (by decide) ?_
          refine lv_iload hx hb dX7_place_65 (lv_at hl 0 rfl) ?_
          refine x_imul hx hb dX7_place_67 ?_
          refine lv_iload_n hx hb dX7_place_68 rfl (lv_at hl 5 rfl) ?_
          refine lv_iconst (v := (nI 2)) hx hb dX7_place_69 (by decide) ?_
          refine x_icmp_ge (tgt := 82) hx hb dX7_place_70 (by decide) (by omega) (by omega) (fun h14 => False.elim (by omega)) (fun h14 => ?_)
          refine lv_aload_n hx hb dX7_place_73 rfl (lv_at hl 4 rfl) ?_
          refine lv_iload hx hb dX7_place_74 (lv_at hl 1 rfl) ?_
          refine k_V (q := (RX7, TX7, 28)) (ci := 7) (As := [.int (nI x)]) (wr := [(ad 11, eArr cI 4 spa), (ad 12, eArr cI 4 hea)]) ⟨hx, hb, hml, hown, hts⟩ (c_X7_rentOf l D cI cC rr ad len kp uo tm em pc0 fm pq dq kq ai sna wma be va lo ((hearM cl (fm 0) (ai 0) (sna 0) wd (wma 0) x (hea 0) (2 ^ (wma 0) - 1)).1) ((hearM cl (fm 0) (ai 0) (sna 0) wd (wma 0) x (hea 0) (2 ^ (wma 0) - 1)).2) cl hrc hok (by omega) wd hrd hokd (by omega) x (by omega)) (cwV 1 hts gX7_place_X7_rentOf rfl rfl rfl (by decide +kernel) ⟨Nat.le_of_ble_eq_true rfl, Nat.le_of_ble_eq_true rfl⟩) rfl hl.1 rfl (Nat.le_of_ble_eq_true rfl) dX7_place_76 ⟨Nat.zero_le _, Nat.zero_le _⟩ hN hK hP hD hS hA rfl (q0 := 2) rfl [2, 3, 4, 5, 6, 7, 8, 9, 10, 11, 12, 13, 14] [0, 1] rfl rfl ⟨rfl, rfl, by decide⟩ (fun r15 u H locs w16 hP hD hS => ?_)
          obtain rfl : r15 = (nI (rentM cl (fm 0) (ai 0) (sna 0) wd (wma 0) x)) := w16
          refine lv_goto (tgt := 83) hx hb dX7_place_79 (by decide) ?_
          refine x_iadd hx hb dX7_place_83 ?_
          refine lv_istore (lv' := [(6, .int (nI (100 * (cntClr cl (fm 0) (ai 0) (sna 0) wd (wma 0) x (hea 0)) + (rentM cl (fm 0) (ai 0) (sna 0) wd (wma 0) x)))), (5, .int (nI (cntClr cl (fm 0) (ai 0) (sna 0) wd (wma 0) x (hea 0)))), (4, .int (nI x)), (2, .int (nI ((argM (fun x => cntClr cl (fm 0) (ai 0) (sna 0) wd (wma 0) x (hea 0)) (fun x => rentM cl (fm 0) (ai 0) (sna 0) wd (wma 0) x) x).1))), (3, .int (iI (pmM (fun x => cntClr cl (fm 0) (ai 0) (sna 0) wd (wma 0) x (hea 0)) (fun x => rentM cl (fm 0) (ai 0) (sna 0) wd (wma 0) x) x))), (0, .ref rr), (1, .int (nI 0))]) hx hb dX7_place_84 hl (by decide) rfl (fun ls hl => ?_)
          refine lv_iload hx hb dX7_place_86 (lv_at hl 0 rfl) ?_
          refine lv_iload_n hx hb dX7_place_88 rfl (lv_at hl 4 rfl) ?_
          refine x_top2 (nI_iI _) ?_
          refine z_icmp_le (tgt := 97) hx hb dX7_place_89 (by decide) (by omega) (by omega) (fun h17 => ?_) (fun h17 => ?_)
          · refine lv_iload_n hx hb dX7_place_97 rfl (lv_at hl 3 rfl) ?_
            refine lv_istore_n (lv' := [(2, .int (nI ((argM (fun x => cntClr cl (fm 0) (ai 0) (sna 0) wd (wma 0) x (hea 0)) (fun x => rentM cl (fm 0) (ai 0) (sna 0) wd (wma 0) x) x).1))), (6, .int (nI (100 * (cntClr cl (fm 0) (ai 0) (sna 0) wd (wma 0) x (hea 0)) + (rentM cl (fm 0) (ai 0) (sna 0) wd (wma 0) x)))), (5, .int (nI (cntClr cl (fm 0) (ai 0) (sna 0) wd (wma 0) x (hea 0)))), (4, .int (nI x)), (3, .int (iI (pmM (fun x => cntClr cl (fm 0) (ai 0) (sna 0) wd (wma 0) x (hea 0)) (fun x => rentM cl (fm 0) (ai 0) (sna 0) wd (wma 0) x) x))), (0, .ref rr), (1, .int (nI 0))]) hx hb dX7_place_98 rfl hl (by decide) rfl (fun ls hl => ?_)
            refine lv_iload hx hb dX7_place_99 (lv_at hl 1 rfl) ?_
            refine lv_iload_n hx hb dX7_place_101 rfl (lv_at hl 4 rfl) ?_
            refine x_top2 (nI_iI _) ?_
            refine z_icmp_le (tgt := 110) hx hb dX7_place_102 (by decide) (by omega) (by omega) (fun h18 => ?_) (fun h18 => False.elim (by omega))
            refine lv_iload_n hx hb dX7_place_110 rfl (lv_at hl 4 rfl) ?_
            refine lv_istore_n (lv' := [(3, .int (iI (pmM (fun x => cntClr cl (fm 0) (ai 0) (sna 0) wd (wma 0) x (hea 0)) (fun x => rentM cl (fm 0) (ai 0) (sna 0) wd (wma 0) x) x))), (2, .int (nI ((argM (fun x => cntClr cl (fm 0) (ai 0) (sna 0) wd (wma 0) x (hea 0)) (fun x => rentM cl (fm 0) (ai 0) (sna 0) wd (wma 0) x) x).1))), (6, .int (nI (100 * (cntClr cl (fm 0) (ai 0) (sna 0) wd (wma 0) x (hea 0)) + (rentM cl (fm 0) (ai 0) (sna 0) wd (wma 0) x)))), (5, .int (nI (cntClr cl (fm 0) (ai 0) (sna 0) wd (wma 0) x (hea 0)))), (4, .int (nI x)), (0, .ref rr), (1, .int (nI 0))]) hx hb dX7_place_111 rfl hl (by decide) rfl (fun ls hl => ?_)
            refine lv_iinc (v := (nI (x + 1))) (lv' := [(4, .int (nI (x + 1))), (3, .int (iI (pmM (fun x => cntClr cl (fm 0) (ai 0) (sna 0) wd (wma 0) x (hea 0)) (fun x => rentM cl (fm 0) (ai 0) (sna 0) wd (wma 0) x) x))), (2, .int (nI ((argM (fun x => cntClr cl (fm 0) (ai 0) (sna 0) wd (wma 0) x (hea 0)) (fun x => rentM cl (fm 0) (ai 0) (sna 0) wd (wma 0) x) x).1))), (6, .int (nI (100 * (cntClr cl (fm 0) (ai 0) (sna 0) wd (wma 0) x (hea 0)) + (rentM cl (fm 0) (ai 0) (sna 0) wd (wma 0) x)))), (5, .int (nI (cntClr cl (fm 0) (ai 0) (sna 0) wd (wma 0) x (hea 0)))), (0, .ref rr), (1, .int (nI 0))]) hx hb dX7_place_112 hl (k := 4) rfl (nI_inc _ 1) (by decide) rfl (fun ls hl => ?_)
            refine lv_goto (tgt := 22) hx hb dX7_place_115 (by decide) ?_
            have e := pmM_le (F := (fun x => cntClr cl (fm 0) (ai 0) (sna 0) wd (wma 0) x (hea 0))) (G := (fun x => rentM cl (fm 0) (ai 0) (sna 0) wd (wma 0) x)) (x := x) (fun q => cntClr_le _ _ _ _ _ _ _ _) (fun q => Nat.le_trans (rentM_le _ _ _ _ _ _ _) (by omega)) (show ((100 * (cntClr cl (fm 0) (ai 0) (sna 0) wd (wma 0) x (hea 0)) + (rentM cl (fm 0) (ai 0) (sna 0) wd (wma 0) x) : Nat) : Int) ≤ pmM (fun x => cntClr cl (fm 0) (ai 0) (sna 0) wd (wma 0) x (hea 0)) (fun x => rentM cl (fm 0) (ai 0) (sna 0) wd (wma 0) x) x from by omega)
            have hl : lv_has ls 7 [(4, .int (nI (x + 1))), (2, .int (nI ((argM (fun x => cntClr cl (fm 0) (ai 0) (sna 0) wd (wma 0) x (hea 0)) (fun x => rentM cl (fm 0) (ai 0) (sna 0) wd (wma 0) x) (x + 1)).1))), (3, .int (iI (pmM (fun x => cntClr cl (fm 0) (ai 0) (sna 0) wd (wma 0) x (hea 0)) (fun x => rentM cl (fm 0) (ai 0) (sna 0) wd (wma 0) x) (x + 1)))), (0, .ref rr), (1, .int (nI 0))] := by have h := hl; rw [e.1, e.2]; have h := lv_sub h [0, 2, 1, 5, 6] rfl; simp only [nI_iI] at h ⊢; exact h
            exact ih22 (x + 1) ((hearM cl (fm 0) (ai 0) (sna 0) wd (wma 0) x x (2 ^ (wma 0) - 1)).1) ((hearM cl (fm 0) (ai 0) (sna 0) wd (wma 0) x x (2 ^ (wma 0) - 1)).2) (by omega) (by omega) _ _ (hP.sub [2, 3, 4, 5, 6, 7, 8, 9, 10, 11, 12, 0, 1, 13, 14] rfl) (hD.sub [2, 3, 4, 5, 6, 7, 8, 9, 10, 11, 12, 0, 1, 13, 14] rfl rfl) hS _ (lv_sub hl [0, 1, 2, 3, 4] rfl)
          · refine lv_iload hx hb dX7_place_92 (lv_at hl 2 rfl) ?_
            refine lv_goto (tgt := 98) hx hb dX7_place_94 (by decide) ?_
            refine lv_istore_n (lv' := [(2, .int (nI x)), (6, .int (nI (100 * (cntClr cl (fm 0) (ai 0) (sna 0) wd (wma 0) x (hea 0)) + (rentM cl (fm 0) (ai 0) (sna 0) wd (wma 0) x)))), (5, .int (nI (cntClr cl (fm 0) (ai 0) (sna 0) wd (wma 0) x (hea 0)))), (4, .int (nI x)), (3, .int (iI (pmM (fun x => cntClr cl (fm 0) (ai 0) (sna 0) wd (wma 0) x (hea 0)) (fun x => rentM cl (fm 0) (ai 0) (sna 0) wd (wma 0) x) x))), (0, .ref rr), (1, .int (nI 0))]) hx hb dX7_place_98 rfl hl (by decide) rfl (fun ls hl => ?_)
            refine lv_iload hx hb dX7_place_99 (lv_at hl 1 rfl) ?_
            refine lv_iload_n hx hb dX7_place_101 rfl (lv_at hl 4 rfl) ?_
            refine x_top2 (nI_iI _) ?_
            refine z_icmp_le (tgt := 110) hx hb dX7_place_102 (by decide) (by omega) (by omega) (fun h19 => False.elim (by omega)) (fun h19 => ?_)
            refine lv_iload hx hb dX7_place_105 (lv_at hl 1 rfl) ?_
            refine lv_goto (tgt := 111) hx hb dX7_place_107 (by decide) ?_
            refine lv_istore_n (lv' := [(3, .int (nI (100 * (cntClr cl (fm 0) (ai 0) (sna 0) wd (wma 0) x (hea 0)) + (rentM cl (fm 0) (ai 0) (sna 0) wd (wma 0) x)))), (2, .int (nI x)), (6, .int (nI (100 * (cntClr cl (fm 0) (ai 0) (sna 0) wd (wma 0) x (hea 0)) + (rentM cl (fm 0) (ai 0) (sna 0) wd (wma 0) x)))), (5, .int (nI (cntClr cl (fm 0) (ai 0) (sna 0) wd (wma 0) x (hea 0)))), (4, .int (nI x)), (0, .ref rr), (1, .int (nI 0))]) hx hb dX7_place_111 rfl hl (by decide) rfl (fun ls hl => ?_)
            refine lv_iinc (v := (nI (x + 1))) (lv' := [(4, .int (nI (x + 1))), (3, .int (nI (100 * (cntClr cl (fm 0) (ai 0) (sna 0) wd (wma 0) x (hea 0)) + (rentM cl (fm 0) (ai 0) (sna 0) wd (wma 0) x)))), (2, .int (nI x)), (6, .int (nI (100 * (cntClr cl (fm 0) (ai 0) (sna 0) wd (wma 0) x (hea 0)) + (rentM cl (fm 0) (ai 0) (sna 0) wd (wma 0) x)))), (5, .int (nI (cntClr cl (fm 0) (ai 0) (sna 0) wd (wma 0) x (hea 0)))), (0, .ref rr), (1, .int (nI 0))]) hx hb dX7_place_112 hl (k := 4) rfl (nI_inc _ 1) (by decide) rfl (fun ls hl => ?_)
            refine lv_goto (tgt := 22) hx hb dX7_place_115 (by decide) ?_
            have e := pmM_gt (F := (fun x => cntClr cl (fm 0) (ai 0) (sna 0) wd (wma 0) x (hea 0))) (G := (fun x => rentM cl (fm 0) (ai 0) (sna 0) wd (wma 0) x)) (x := x) (fun q => cntClr_le _ _ _ _ _ _ _ _) (fun q => Nat.le_trans (rentM_le _ _ _ _ _ _ _) (by omega)) (show pmM (fun x => cntClr cl (fm 0) (ai 0) (sna 0) wd (wma 0) x (hea 0)) (fun x => rentM cl (fm 0) (ai 0) (sna 0) wd (wma 0) x) x < ((100 * (cntClr cl (fm 0) (ai 0) (sna 0) wd (wma 0) x (hea 0)) + (rentM cl (fm 0) (ai 0) (sna 0) wd (wma 0) x) : Nat) : Int) from by omega)
            have hl : lv_has ls 7 [(4, .int (nI (x + 1))), (2, .int (nI ((argM (fun x => cntClr cl (fm 0) (ai 0) (sna 0) wd (wma 0) x (hea 0)) (fun x => rentM cl (fm 0) (ai 0) (sna 0) wd (wma 0) x) (x + 1)).1))), (3, .int (iI (pmM (fun x => cntClr cl (fm 0) (ai 0) (sna 0) wd (wma 0) x (hea 0)) (fun x => rentM cl (fm 0) (ai 0) (sna 0) wd (wma 0) x) (x + 1)))), (0, .ref rr), (1, .int (nI 0))] := by have h := hl; rw [e.1, e.2]; have h := lv_sub h [0, 2, 1, 5, 6] rfl; simp only [nI_iI] at h ⊢; exact h
            exact ih22 (x + 1) ((hearM cl (fm 0) (ai 0) (sna 0) wd (wma 0) x x (2 ^ (wma 0) - 1)).1) ((hearM cl (fm 0) (ai 0) (sna 0) wd (wma 0) x x (2 ^ (wma 0) - 1)).2) (by omega) (by omega) _ _ (hP.sub [2, 3, 4, 5, 6, 7, 8, 9, 10, 11, 12, 0, 1, 13, 14] rfl) (hD.sub [2, 3, 4, 5, 6, 7, 8, 9, 10, 11, 12, 0, 1, 13, 14] rfl rfl) hS _ (lv_sub hl [0, 1, 2, 3, 4] rfl)
    exact loop22 _ 0 lg vg (Nat.lt_succ_self _) (by omega) _ _ (hP.sub [0, 1, 2, 3, 4, 5, 6, 7, 8, 9, 10, 11, 12, 13, 14] rfl) (hD.sub [0, 1, 2, 3, 4, 5, 6, 7, 8, 9, 10, 11, 12, 13, 14] rfl rfl) hS _ (lv_sub hl [0, 2, 1, 3, 4] rfl)
  · exact False.elim (by omega)

set_option maxRecDepth 100000 in
set_option maxHeartbeats 4000000 in
theorem c_X7_place_1 (l : Launch) (D : va_G) (cI cC : ClassId) (rr : Nat) (ad : Nat → Nat) (len : Nat) (kp : Nat) (uo : Nat) (tm : Nat) (em : Nat) (pc0 : Nat) (fm : Nat → Nat) (pq : Nat → Nat) (dq : Nat → Nat) (kq : Nat → Nat) (ai : Nat → Nat) (sna : Nat → Nat) (wma : Nat → Nat) (be : Nat → Nat) (va : Nat → Nat) (lo : Nat → Nat) (spa : Nat → Nat) (hea : Nat → Nat) (lg : Nat → Nat) (vg : Nat → Nat) (cl : Nat → Nat) (hrc : relC pq dq kq cl (fm 0)) (hok : okC cl (fm 0)) (hfm : fm 0 ≤ 4 ∧ ai 0 ≤ 99 ∧ sna 0 < 2147483648) (wd : Nat → Nat) (hrd : relD be va lo wd (wma 0)) (hokd : okD wd (wma 0)) (hnw : wma 0 ≤ 8) (hsp : spa 0 ≤ 40 ∧ hea 0 ≤ 40) : mtI l D cI cC yX7_place wsX7_place ({ frames := 5, cells := 0, slots := 0, locals := 121 }) [.ref rr, .int (nI 1)] [(rr, eMod ad len kp uo tm em pc0), (ad 2, eArr cI 2 fm), (ad 3, eArr cI 8 pq), (ad 4, eArr cI 8 dq), (ad 5, eArr cI 8 kq), (ad 6, eArr cI 2 ai), (ad 13, eArr cI 4 sna), (ad 7, eArr cI 4 wma), (ad 8, eArr cI 32 be), (ad 9, eArr cI 32 va), (ad 10, eArr cI 32 lo), (ad 11, eArr cI 4 spa), (ad 12, eArr cI 4 hea), (ad 20, eArr cI 150 lg), (ad 21, eArr cI 150 vg)] (fun (r : Int32) ((lg', vg') : (Nat → Nat) × (Nat → Nat)) => r = (nI (cntClr cl (fm 0) (ai 0) (sna 0) wd (wma 0) ((argM (fun x => cntClr cl (fm 0) (ai 0) (sna 0) wd (wma 0) x (hea 0)) (fun x => rentM cl (fm 0) (ai 0) (sna 0) wd (wma 0) x) 41).1) (hea 0)))) (fun ((lg', vg') : (Nat → Nat) × (Nat → Nat)) => [(rr, eMod ad len kp uo tm em pc0), (ad 2, eArr cI 2 fm), (ad 3, eArr cI 8 pq), (ad 4, eArr cI 8 dq), (ad 5, eArr cI 8 kq), (ad 6, eArr cI 2 ai), (ad 13, eArr cI 4 sna), (ad 7, eArr cI 4 wma), (ad 8, eArr cI 32 be), (ad 9, eArr cI 32 va), (ad 10, eArr cI 32 lo), (ad 11, eArr cI 4 spa), (ad 12, eArr cI 4 hea), (ad 20, eArr cI 150 lg'), (ad 21, eArr cI 150 vg')]) := by
  refine mtI_of (cc := cX7_place) (maxL := 7) (ret := (some .int)) (by decide) rfl rfl ?_
  intro p e s m below meth c A hx hb hml hr hts hown hlocks hN hA hK hP hD hS ls hl
  have hown : s.vm.findClass RX7 = some m.cls := hown
  have hl : lv_has ls 7 [(0, .ref rr), (1, .int (nI 1))] := hl
  obtain ⟨H, hHe⟩ : ∃ H, H = s.heap := ⟨_, rfl⟩
  rw [← hHe] at hP ⊢
  have hS : va_S A s.heap H [] := by rw [hHe]; exact va_S.rf
  have fl43 := hts (.fieldLink RX7 43 "EchoPaysRentModel" "hearer" "[I") (by decide +kernel)
  have inX7 : ∀ w ∈ wsX70, w ∈ wsX7_place := by decide +kernel
  refine lv_iload_n hx hb dX7_place_0 rfl (lv_at hl 1 rfl) ?_
  refine n_i2l hx hb dX7_place_1 (by omega) ?_
  refine lv_lconst (v := lN 0) hx hb dX7_place_2 rfl ?_
  refine lv_ldc2 (v := lN 3) hx hb hown (hts (.constantLong RX7 184 3) (by decide +kernel)) dX7_place_3 ?_
  refine k_S (As := [.long (lI (((1 : Nat) : Int))), .long (lI (((0 : Nat) : Int))), .long (lI (((3 : Nat) : Int)))]) (wr := [(rr, eMod ad len kp uo tm em pc0), (ad 2, eArr cI 2 fm), (ad 3, eArr cI 8 pq), (ad 4, eArr cI 8 dq), (ad 5, eArr cI 8 kq), (ad 6, eArr cI 2 ai), (ad 13, eArr cI 4 sna), (ad 7, eArr cI 4 wma), (ad 8, eArr cI 32 be), (ad 9, eArr cI 32 va), (ad 10, eArr cI 32 lo), (ad 11, eArr cI 4 spa), (ad 12, eArr cI 4 hea), (ad 20, eArr cI 150 lg), (ad 21, eArr cI 150 vg)]) ⟨hx, hb, hml, hown, hts⟩ (c_X7_in l D cI cC (((1 : Nat) : Int)) (((0 : Nat) : Int)) (((3 : Nat) : Int)) (by omega) (by omega) (by omega)) (cwS 3 hts gX7_place_X7_in rfl rfl rfl (by decide +kernel) ⟨Nat.le_of_ble_eq_true rfl, Nat.le_of_ble_eq_true rfl⟩) rfl hl.1 (by simp only [nI_iI, lN_lI]; rfl) (Nat.le_of_ble_eq_true rfl) dX7_place_6 ⟨Nat.zero_le _, Nat.zero_le _⟩ hN hK hP hD hS hA [] [0, 1, 2, 3, 4, 5, 6, 7, 8, 9, 10, 11, 12, 13, 14] rfl rfl ⟨rfl, rfl, by decide⟩ (fun r1 u H locs w2 hP hD hS => ?_)
  obtain ⟨rfl, h3, h4⟩ | ⟨rfl, h5⟩ : (r1 = (nI 1) ∧ (((0 : Nat) : Int)) ≤ (((1 : Nat) : Int)) ∧ (((1 : Nat) : Int)) ≤ (((3 : Nat) : Int))) ∨ (r1 = (nI 0) ∧ ((((1 : Nat) : Int)) < (((0 : Nat) : Int)) ∨ (((3 : Nat) : Int)) < (((1 : Nat) : Int)))) := w2
  · refine x_if_ne (tgt := 14) hx hb dX7_place_9 (by decide) (by omega) (fun h6 => ?_) (fun h6 => False.elim (by omega))
    refine lv_iconst (v := (nI 0)) hx hb dX7_place_14 (by decide) ?_
    refine lv_istore_n (lv' := [(2, .int (nI 0)), (0, .ref rr), (1, .int (nI 1))]) hx hb dX7_place_15 rfl hl (by decide) rfl (fun ls hl => ?_)
    refine lv_bipush (v := (iI (-4))) hx hb dX7_place_16 (by decide) ?_
    refine lv_istore_n (lv' := [(3, .int (iI (-4))), (2, .int (nI 0)), (0, .ref rr), (1, .int (nI 1))]) hx hb dX7_place_18 rfl hl (by decide) rfl (fun ls hl => ?_)
    refine lv_iconst (v := (nI 0)) hx hb dX7_place_19 (by decide) ?_
    refine lv_istore (lv' := [(4, .int (nI 0)), (3, .int (iI (-4))), (2, .int (nI 0)), (0, .ref rr), (1, .int (nI 1))]) hx hb dX7_place_20 hl (by decide) rfl (fun ls hl => ?_)
    have loop22 : ∀ (nn22 : Nat) (x : Nat) (lg' : Nat → Nat) (vg' : Nat → Nat), 41 - x < nn22 → (x ≤ 41) → ∀ (H : Heap) (locs : List Loc), va_P D vwCl [(rr, eMod ad len kp uo tm em pc0), (ad 2, eArr cI 2 fm), (ad 3, eArr cI 8 pq), (ad 4, eArr cI 8 dq), (ad 5, eArr cI 8 kq), (ad 6, eArr cI 2 ai), (ad 13, eArr cI 4 sna), (ad 7, eArr cI 4 wma), (ad 8, eArr cI 32 be), (ad 9, eArr cI 32 va), (ad 10, eArr cI 32 lo), (ad 11, eArr cI 4 spa), (ad 12, eArr cI 4 hea), (ad 20, eArr cI 150 lg'), (ad 21, eArr cI 150 vg')] H → va_D A [(rr, eMod ad len kp uo tm em pc0), (ad 2, eArr cI 2 fm), (ad 3, eArr cI 8 pq), (ad 4, eArr cI 8 dq), (ad 5, eArr cI 8 kq), (ad 6, eArr cI 2 ai), (ad 13, eArr cI 4 sna), (ad 7, eArr cI 4 wma), (ad 8, eArr cI 32 be), (ad 9, eArr cI 32 va), (ad 10, eArr cI 32 lo), (ad 11, eArr cI 4 spa), (ad 12, eArr cI 4 hea), (ad 20, eArr cI 150 lg'), (ad 21, eArr cI 150 vg')] → va_S A s.heap H locs → ∀ ls : Array Slot, lv_has ls 7 [(4, .int (nI x)), (2, .int (nI ((argM (fun x => cntClr cl (fm 0) (ai 0) (sna 0) wd (wma 0) x (hea 0)) (fun x => rentM cl (fm 0) (ai 0) (sna 0) wd (wma 0) x) x).1))), (3, .int (iI (pmM (fun x => cntClr cl (fm 0) (ai 0) (sna 0) wd (wma 0) x (hea 0)) (fun x => rentM cl (fm 0) (ai 0) (sna 0) wd (wma 0) x) x))), (0, .ref rr), (1, .int (nI 1))] → W p l e (headSpec wsX7_place ({ frames := 5, cells := 0, slots := 0, locals := 121 })).room s m ([.ref rr, .int (nI 1)] : List Value).toArray below meth c H locs 0 0 (MQ below (va_Qi (fun (r : Int32) ((lg', vg') : (Nat → Nat) × (Nat → Nat)) => r = (nI (cntClr cl (fm 0) (ai 0) (sna 0) wd (wma 0) ((argM (fun x => cntClr cl (fm 0) (ai 0) (sna 0) wd (wma 0) x (hea 0)) (fun x => rentM cl (fm 0) (ai 0) (sna 0) wd (wma 0) x) 41).1) (hea 0)))) (ctB D cI cC (fun ((lg', vg') : (Nat → Nat) × (Nat → Nat)) => [(rr, eMod ad len kp uo tm em pc0), (ad 2, eArr cI 2 fm), (ad 3, eArr cI 8 pq), (ad 4, eArr cI 8 dq), (ad 5, eArr cI 8 kq), (ad 6, eArr cI 2 ai), (ad 13, eArr cI 4 sna), (ad 7, eArr cI 4 wma), (ad 8, eArr cI 32 be), (ad 9, eArr cI 32 va), (ad 10, eArr cI 32 lo), (ad 11, eArr cI 4 spa), (ad 12, eArr cI 4 hea), (ad 20, eArr cI 150 lg'), (ad 21, eArr cI 150 vg')]) A) A) ([.ref rr, .int (nI 1)] : List Value).toArray s 0 0 A) (F0 m 22 ls []) := by
      intro nn22
      induction nn22 with
      | zero =>
        intro x lg' vg' hm7
        exact absurd hm7 (Nat.not_lt_zero _)
      | succ nn22 ih22 =>
        intro x lg' vg' hm7 hi8 H locs hP hD hS ls hl
        refine lv_iload hx hb dX7_place_22 (lv_at hl 0 rfl) ?_
        refine lv_bipush (v := (nI 40)) hx hb dX7_place_24 (by decide) ?_
        refine x_icmp_gt (tgt := 118) hx hb dX7_place_26 (by decide) (by omega) (by omega) (fun h9 => ?_) (fun h9 => ?_)
        · obtain rfl : x = 41 := by omega
          refine lv_iload_n hx hb dX7_place_118 rfl (lv_at hl 4 rfl) ?_
          refine lv_iconst (v := (nI 2)) hx hb dX7_place_119 (by decide) ?_
          refine x_irem hx hb dX7_place_120 (by omega) (by omega) (by omega) ?_
          refine x_if_ne (tgt := 128) hx hb dX7_place_121 (by decide) (by omega) (fun h10 => ?_) (fun h10 => False.elim (by omega))
          have hp41 : pmM (fun x => cntClr cl (fm 0) (ai 0) (sna 0) wd (wma 0) x (hea 0)) (fun x => rentM cl (fm 0) (ai 0) (sna 0) wd (wma 0) x) 41 = ((100 * (cntClr cl (fm 0) (ai 0) (sna 0) wd (wma 0) ((argM (fun x => cntClr cl (fm 0) (ai 0) (sna 0) wd (wma 0) x (hea 0)) (fun x => rentM cl (fm 0) (ai 0) (sna 0) wd (wma 0) x) 41).1) (hea 0)) + (rentM cl (fm 0) (ai 0) (sna 0) wd (wma 0) ((argM (fun x => cntClr cl (fm 0) (ai 0) (sna 0) wd (wma 0) x (hea 0)) (fun x => rentM cl (fm 0) (ai 0) (sna 0) wd (wma 0) x) 41).1)) : Nat) : Int) := pmM_41 _ _
          have hcb := cntClr_le cl (fm 0) (ai 0) (sna 0) wd (wma 0) (argM (fun x => cntClr cl (fm 0) (ai 0) (sna 0) wd (wma 0) x (hea 0)) (fun x => rentM cl (fm 0) (ai 0) (sna 0) wd (wma 0) x) 41).1 (hea 0)
          have hrb := rentM_le cl (fm 0) (ai 0) (sna 0) wd (wma 0) (argM (fun x => cntClr cl (fm 0) (ai 0) (sna 0) wd (wma 0) x (hea 0)) (fun x => rentM cl (fm 0) (ai 0) (sna 0) wd (wma 0) x) 41).1
          rw [hp41, ← nI_iI] at hl
          refine lv_iload_n hx hb dX7_place_128 rfl (lv_at hl 2 rfl) ?_
          refine lv_bipush (v := (nI 100)) hx hb dX7_place_129 (by decide) ?_
          refine x_idiv hx hb dX7_place_131 (by omega) (by omega) (by omega) ?_
          exact x_iret hx hb hr hlocks dX7_place_132 rfl (post := fun (r : Int32) ((lg', vg') : (Nat → Nat) × (Nat → Nat)) => r = (nI (cntClr cl (fm 0) (ai 0) (sna 0) wd (wma 0) ((argM (fun x => cntClr cl (fm 0) (ai 0) (sna 0) wd (wma 0) x (hea 0)) (fun x => rentM cl (fm 0) (ai 0) (sna 0) wd (wma 0) x) 41).1) (hea 0)))) (w1 := fun ((lg', vg') : (Nat → Nat) × (Nat → Nat)) => [(rr, eMod ad len kp uo tm em pc0), (ad 2, eArr cI 2 fm), (ad 3, eArr cI 8 pq), (ad 4, eArr cI 8 dq), (ad 5, eArr cI 8 kq), (ad 6, eArr cI 2 ai), (ad 13, eArr cI 4 sna), (ad 7, eArr cI 4 wma), (ad 8, eArr cI 32 be), (ad 9, eArr cI 32 va), (ad 10, eArr cI 32 lo), (ad 11, eArr cI 4 spa), (ad 12, eArr cI 4 hea), (ad 20, eArr cI 150 lg'), (ad 21, eArr cI 150 vg')]) (lg', vg') (show nI ((100 * (cntClr cl (fm 0) (ai 0) (sna 0) wd (wma 0) ((argM (fun x => cntClr cl (fm 0) (ai 0) (sna 0) wd (wma 0) x (hea 0)) (fun x => rentM cl (fm 0) (ai 0) (sna 0) wd (wma 0) x) 41).1) (hea 0)) + (rentM cl (fm 0) (ai 0) (sna 0) wd (wma 0) ((argM (fun x => cntClr cl (fm 0) (ai 0) (sna 0) wd (wma 0) x (hea 0)) (fun x => rentM cl (fm 0) (ai 0) (sna 0) wd (wma 0) x) 41).1))) / 100) = nI (cntClr cl (fm 0) (ai 0) (sna 0) wd (wma 0) ((argM (fun x => cntClr cl (fm 0) (ai 0) (sna 0) wd (wma 0) x (hea 0)) (fun x => rentM cl (fm 0) (ai 0) (sna 0) wd (wma 0) x) 41).1) (hea 0)) from congrArg nI (by omega)) hK hP hD hS
        · have hpb := pmM_bd (F := (fun x => cntClr cl (fm 0) (ai 0) (sna 0) wd (wma 0) x (hea 0))) (G := (fun x => rentM cl (fm 0) (ai 0) (sna 0) wd (wma 0) x)) (fun q => cntClr_le _ _ _ _ _ _ _ _) (fun q => Nat.le_trans (rentM_le _ _ _ _ _ _ _) (by omega)) x
          have hcl := cntClr_le cl (fm 0) (ai 0) (sna 0) wd (wma 0) x (hea 0)
          have hrn := rentM_le cl (fm 0) (ai 0) (sna 0) wd (wma 0) x
          refine lv_iload_n hx hb dX7_place_29 rfl (lv_at hl 4 rfl) ?_
          refine lv_iconst (v := (nI 2)) hx hb dX7_place_30 (by decide) ?_
          refine x_icmp_ge (tgt := 49) hx hb dX7_place_31 (by decide) (by omega) (by omega) (fun h11 => False.elim (by omega)) (fun h11 => ?_)
          refine lv_aload_n hx hb dX7_place_34 rfl (lv_at hl 3 rfl) ?_
          refine lv_iload hx hb dX7_place_35 (lv_at hl 0 rfl) ?_
          refine lv_aload_n hx hb dX7_place_37 rfl (lv_at hl 3 rfl) ?_
          refine va_get (D := D) (ci := 7) (v := .ref (ad 12)) (C := RX7) (T := TX7) (N := 28) hx hb hts inX7 hown hK hP 0 rfl rfl 12 (by decide) fl43 (fun _ h9 => h9) rfl dX7_place_38 ?_
          refine lv_iconst (v := (nI 0)) hx hb dX7_place_41 (by decide) ?_
          refine x_iald (A := A) hx hb hK hP 12 0 rfl rfl dX7_place_42 (by omega) (by omega) ?_
          refine k_V (q := (RX7, TX7, 28)) (ci := 7) (As := [.int (nI x), .int (nI (hea 0))]) (wr := [(ad 11, eArr cI 4 spa), (ad 12, eArr cI 4 hea)]) ⟨hx, hb, hml, hown, hts⟩ (c_X7_clearMany l D cI cC rr ad len kp uo tm em pc0 fm pq dq kq ai sna wma be va lo lg' vg' cl hrc hok (by omega) wd hrd hokd (by omega) x (hea 0) (by omega)) (cwV 2 hts gX7_place_X7_clearMany rfl rfl rfl (by decide +kernel) ⟨Nat.le_of_ble_eq_true rfl, Nat.le_of_ble_eq_true rfl⟩) rfl hl.1 rfl (Nat.le_of_ble_eq_true rfl) dX7_place_43 ⟨Nat.zero_le _, Nat.zero_le _⟩ hN hK hP hD hS hA rfl (q0 := 0) rfl [0, 1, 2, 3, 4, 5, 6, 7, 8, 9, 10, 13, 14] [11, 12] rfl rfl ⟨rfl, rfl, by decide⟩ (fun r12 u H locs w13 hP hD hS => ?_)
          obtain rfl : r12 = (nI (cntClr cl (fm 0) (ai 0) (sna 0) wd (wma 0) x (hea 0))) := w13
          refine lv_goto (tgt := 61) hx hb dX7_place_46 (by decide) ?_
          refine lv_istore (lv' := [(5, .int (nI (cntClr cl (fm 0) (ai 0) (sna 0) wd (wma 0) x (hea 0)))), (4, .int (nI x)), (2, .int (nI ((argM (fun x => cntClr cl (fm 0) (ai 0) (sna 0) wd (wma 0) x (hea 0)) (fun x => rentM cl (fm 0) (ai 0) (sna 0) wd (wma 0) x) x).1))), (3, .int (iI (pmM (fun x => cntClr cl (fm 0) (ai 0) (sna 0) wd (wma 0) x (hea 0)) (fun x => rentM cl (fm 0) (ai 0) (sna 0) wd (wma 0) x) x))), (0, .ref rr), (1, .int (nI 1))]) hx hb dX7_place_61 hl (by decide) rfl (fun ls hl => ?_)
          refine lv_bipush (v := (nI 100)) hx hb dX7_place_63 (by decide) ?_
          refine lv_iload hx hb dX7_place_65 (lv_at hl 0 rfl) ?_
          refine x_imul hx hb dX7_place_67 ?_
          refine lv_iload_n hx hb dX7_place_68 rfl (lv_at hl 5 rfl) ?_
          refine lv_iconst (v := (nI 2)) hx hb dX7_place_69 (by decide) ?_
          refine x_icmp_ge (tgt := 82) hx hb dX7_place_70 (by decide) (by omega) (by omega) (fun h14 => False.elim (by omega)) (fun h14 => ?_)
          refine lv_aload_n hx hb dX7_place_73 rfl (lv_at hl 4 rfl) ?_
          refine lv_iload hx hb dX7_place_74 (lv_at hl 1 rfl) ?_
          refine k_V (q := (RX7, TX7, 28)) (ci := 7) (As := [.int (nI x)]) (wr := [(ad 11, eArr cI 4 spa), (ad 12, eArr cI 4 hea)]) ⟨hx, hb, hml, hown, hts⟩ (c_X7_rentOf l D cI cC rr ad len kp uo tm em pc0 fm pq dq kq ai sna wma be va lo ((hearM cl (fm 0) (ai 0) (sna 0) wd (wma 0) x (hea 0) (2 ^ (wma 0) - 1)).1) ((hearM cl (fm 0) (ai 0) (sna 0) wd (wma 0) x (hea 0) (2 ^ (wma 0) - 1)).2) cl hrc hok (by omega) wd hrd hokd (by omega) x (by omega)) (cwV 1 hts gX7_place_X7_rentOf rfl rfl rfl (by decide +kernel) ⟨Nat.le_of_ble_eq_true rfl, Nat.le_of_ble_eq_true rfl⟩) rfl hl.1 rfl (Nat.le_of_ble_eq_true rfl) dX7_place_76 ⟨Nat.zero_le _, Nat.zero_le _⟩ hN hK hP hD hS hA rfl (q0 := 2) rfl [2, 3, 4, 5, 6, 7, 8, 9, 10, 11, 12, 13, 14] [0, 1] rfl rfl ⟨rfl, rfl, by decide⟩ (fun r15 u H locs w16 hP hD hS => ?_)
          obtain rfl : r15 = (nI (rentM cl (fm 0) (ai 0) (sna 0) wd (wma 0) x)) := w16
          refine lv_goto (tgt := 83) hx hb dX7_place_79 (by decide) ?_
          refine x_iadd hx hb dX7_place_83 ?_
          refine lv_istore (lv' := [(6, .int (nI (100 * (cntClr cl (fm 0) (ai 0) (sna 0) wd (wma 0) x (hea 0)) + (rentM cl (fm 0) (ai 0) (sna 0) wd (wma 0) x)))), (5, .int (nI (cntClr cl (fm 0) (ai 0) (sna 0) wd (wma 0) x (hea 0)))), (4, .int (nI x)), (2, .int (nI ((argM (fun x => cntClr cl (fm 0) (ai 0) (sna 0) wd (wma 0) x (hea 0)) (fun x => rentM cl (fm 0) (ai 0) (sna 0) wd (wma 0) x) x).1))), (3, .int (iI (pmM (fun x => cntClr cl (fm 0) (ai 0) (sna 0) wd (wma 0) x (hea 0)) (fun x => rentM cl (fm 0) (ai 0) (sna 0) wd (wma 0) x) x))), (0, .ref rr), (1, .int (nI 1))]) hx hb dX7_place_84 hl (by decide) rfl (fun ls hl => ?_)
          refine lv_iload hx hb dX7_place_86 (lv_at hl 0 rfl) ?_
          refine lv_iload_n hx hb dX7_place_88 rfl (lv_at hl 4 rfl) ?_
          refine x_top2 (nI_iI _) ?_
          refine z_icmp_le (tgt := 97) hx hb dX7_place_89 (by decide) (by omega) (by omega) (fun h17 => ?_) (fun h17 => ?_)
          · refine lv_iload_n hx hb dX7_place_97 rfl (lv_at hl 3 rfl) ?_
            refine lv_istore_n (lv' := [(2, .int (nI ((argM (fun x => cntClr cl (fm 0) (ai 0) (sna 0) wd (wma 0) x (hea 0)) (fun x => rentM cl (fm 0) (ai 0) (sna 0) wd (wma 0) x) x).1))), (6, .int (nI (100 * (cntClr cl (fm 0) (ai 0) (sna 0) wd (wma 0) x (hea 0)) + (rentM cl (fm 0) (ai 0) (sna 0) wd (wma 0) x)))), (5, .int (nI (cntClr cl (fm 0) (ai 0) (sna 0) wd (wma 0) x (hea 0)))), (4, .int (nI x)), (3, .int (iI (pmM (fun x => cntClr cl (fm 0) (ai 0) (sna 0) wd (wma 0) x (hea 0)) (fun x => rentM cl (fm 0) (ai 0) (sna 0) wd (wma 0) x) x))), (0, .ref rr), (1, .int (nI 1))]) hx hb dX7_place_98 rfl hl (by decide) rfl (fun ls hl => ?_)
            refine lv_iload hx hb dX7_place_99 (lv_at hl 1 rfl) ?_
            refine lv_iload_n hx hb dX7_place_101 rfl (lv_at hl 4 rfl) ?_
            refine x_top2 (nI_iI _) ?_
            refine z_icmp_le (tgt := 110) hx hb dX7_place_102 (by decide) (by omega) (by omega) (fun h18 => ?_) (fun h18 => False.elim (by omega))
            refine lv_iload_n hx hb dX7_place_110 rfl (lv_at hl 4 rfl) ?_
            refine lv_istore_n (lv' := [(3, .int (iI (pmM (fun x => cntClr cl (fm 0) (ai 0) (sna 0) wd (wma 0) x (hea 0)) (fun x => rentM cl (fm 0) (ai 0) (sna 0) wd (wma 0) x) x))), (2, .int (nI ((argM (fun x => cntClr cl (fm 0) (ai 0) (sna 0) wd (wma 0) x (hea 0)) (fun x => rentM cl (fm 0) (ai 0) (sna 0) wd (wma 0) x) x).1))), (6, .int (nI (100 * (cntClr cl (fm 0) (ai 0) (sna 0) wd (wma 0) x (hea 0)) + (rentM cl (fm 0) (ai 0) (sna 0) wd (wma 0) x)))), (5, .int (nI (cntClr cl (fm 0) (ai 0) (sna 0) wd (wma 0) x (hea 0)))), (4, .int (nI x)), (0, .ref rr), (1, .int (nI 1))]) hx hb dX7_place_111 rfl hl (by decide) rfl (fun ls hl => ?_)
            refine lv_iinc (v := (nI (x + 1))) (lv' := [(4, .int (nI (x + 1))), (3, .int (iI (pmM (fun x => cntClr cl (fm 0) (ai 0) (sna 0) wd (wma 0) x (hea 0)) (fun x => rentM cl (fm 0) (ai 0) (sna 0) wd (wma 0) x) x))), (2, .int (nI ((argM (fun x => cntClr cl (fm 0) (ai 0) (sna 0) wd (wma 0) x (hea 0)) (fun x => rentM cl (fm 0) (ai 0) (sna 0) wd (wma 0) x) x).1))), (6, .int (nI (100 * (cntClr cl (fm 0) (ai 0) (sna 0) wd (wma 0) x (hea 0)) + (rentM cl (fm 0) (ai 0) (sna 0) wd (wma 0) x)))), (5, .int (nI (cntClr cl (fm 0) (ai 0) (sna 0) wd (wma 0) x (hea 0)))), (0, .ref rr), (1, .int (nI 1))]) hx hb dX7_place_112 hl (k := 4) rfl (nI_inc _ 1) (by decide) rfl (fun ls hl => ?_)
            refine lv_goto (tgt := 22) hx hb dX7_place_115 (by decide) ?_
            have e := pmM_le (F := (fun x => cntClr cl (fm 0) (ai 0) (sna 0) wd (wma 0) x (hea 0))) (G := (fun x => rentM cl (fm 0) (ai 0) (sna 0) wd (wma 0) x)) (x := x) (fun q => cntClr_le _ _ _ _ _ _ _ _) (fun q => Nat.le_trans (rentM_le _ _ _ _ _ _ _) (by omega)) (show ((100 * (cntClr cl (fm 0) (ai 0) (sna 0) wd (wma 0) x (hea 0)) + (rentM cl (fm 0) (ai 0) (sna 0) wd (wma 0) x) : Nat) : Int) ≤ pmM (fun x => cntClr cl (fm 0) (ai 0) (sna 0) wd (wma 0) x (hea 0)) (fun x => rentM cl (fm 0) (ai 0) (sna 0) wd (wma 0) x) x from by omega)
            have hl : lv_has ls 7 [(4, .int (nI (x + 1))), (2, .int (nI ((argM (fun x => cntClr cl (fm 0) (ai 0) (sna 0) wd (wma 0) x (hea 0)) (fun x => rentM cl (fm 0) (ai 0) (sna 0) wd (wma 0) x) (x + 1)).1))), (3, .int (iI (pmM (fun x => cntClr cl (fm 0) (ai 0) (sna 0) wd (wma 0) x (hea 0)) (fun x => rentM cl (fm 0) (ai 0) (sna 0) wd (wma 0) x) (x + 1)))), (0, .ref rr), (1, .int (nI 1))] := by have h := hl; rw [e.1, e.2]; have h := lv_sub h [0, 2, 1, 5, 6] rfl; simp only [nI_iI] at h ⊢; exact h
            exact ih22 (x + 1) ((hearM cl (fm 0) (ai 0) (sna 0) wd (wma 0) x x (2 ^ (wma 0) - 1)).1) ((hearM cl (fm 0) (ai 0) (sna 0) wd (wma 0) x x (2 ^ (wma 0) - 1)).2) (by omega) (by omega) _ _ (hP.sub [2, 3, 4, 5, 6, 7, 8, 9, 10, 11, 12, 0, 1, 13, 14] rfl) (hD.sub [2, 3, 4, 5, 6, 7, 8, 9, 10, 11, 12, 0, 1, 13, 14] rfl rfl) hS _ (lv_sub hl [0, 1, 2, 3, 4] rfl)
          · refine lv_iload hx hb dX7_place_92 (lv_at hl 2 rfl) ?_
            refine lv_goto (tgt := 98) hx hb dX7_place_94 (by decide) ?_
            refine lv_istore_n (lv' := [(2, .int (nI x)), (6, .int (nI (100 * (cntClr cl (fm 0) (ai 0) (sna 0) wd (wma 0) x (hea 0)) + (rentM cl (fm 0) (ai 0) (sna 0) wd (wma 0) x)))), (5, .int (nI (cntClr cl (fm 0) (ai 0) (sna 0) wd (wma 0) x (hea 0)))), (4, .int (nI x)), (3, .int (iI (pmM (fun x => cntClr cl (fm 0) (ai 0) (sna 0) wd (wma 0) x (hea 0)) (fun x => rentM cl (fm 0) (ai 0) (sna 0) wd (wma 0) x) x))), (0, .ref rr), (1, .int (nI 1))]) hx hb dX7_place_98 rfl hl (by decide) rfl (fun ls hl => ?_)
            refine lv_iload hx hb dX7_place_99 (lv_at hl 1 rfl) ?_
            refine lv_iload_n hx hb dX7_place_101 rfl (lv_at hl 4 rfl) ?_
            refine x_top2 (nI_iI _) ?_
            refine z_icmp_le (tgt := 110) hx hb dX7_place_102 (by decide) (by omega) (by omega) (fun h19 => False.elim (by omega)) (fun h19 => ?_)
            refine lv_iload hx hb dX7_place_105 (lv_at hl 1 rfl) ?_
            refine lv_goto (tgt := 111) hx hb dX7_place_107 (by decide) ?_
            refine lv_istore_n (lv' := [(3, .int (nI (100 * (cntClr cl (fm 0) (ai 0) (sna 0) wd (wma 0) x (hea 0)) + (rentM cl (fm 0) (ai 0) (sna 0) wd (wma 0) x)))), (2, .int (nI x)), (6, .int (nI (100 * (cntClr cl (fm 0) (ai 0) (sna 0) wd (wma 0) x (hea 0)) + (rentM cl (fm 0) (ai 0) (sna 0) wd (wma 0) x)))), (5, .int (nI (cntClr cl (fm 0) (ai 0) (sna 0) wd (wma 0) x (hea 0)))), (4, .int (nI x)), (0, .ref rr), (1, .int (nI 1))]) hx hb dX7_place_111 rfl hl (by decide) rfl (fun ls hl => ?_)
            refine lv_iinc (v := (nI (x + 1))) (lv' := [(4, .int (nI (x + 1))), (3, .int (nI (100 * (cntClr cl (fm 0) (ai 0) (sna 0) wd (wma 0) x (hea 0)) + (rentM cl (fm 0) (ai 0) (sna 0) wd (wma 0) x)))), (2, .int (nI x)), (6, .int (nI (100 * (cntClr cl (fm 0) (ai 0) (sna 0) wd (wma 0) x (hea 0)) + (rentM cl (fm 0) (ai 0) (sna 0) wd (wma 0) x)))), (5, .int (nI (cntClr cl (fm 0) (ai 0) (sna 0) wd (wma 0) x (hea 0)))), (0, .ref rr), (1, .int (nI 1))]) hx hb dX7_place_112 hl (k := 4) rfl (nI_inc _ 1) (by decide) rfl (fun ls hl => ?_)
            refine lv_goto (tgt := 22) hx hb dX7_place_115 (by decide) ?_
            have e := pmM_gt (F := (fun x => cntClr cl (fm 0) (ai 0) (sna 0) wd (wma 0) x (hea 0))) (G := (fun x => rentM cl (fm 0) (ai 0) (sna 0) wd (wma 0) x)) (x := x) (fun q => cntClr_le _ _ _ _ _ _ _ _) (fun q => Nat.le_trans (rentM_le _ _ _ _ _ _ _) (by omega)) (show pmM (fun x => cntClr cl (fm 0) (ai 0) (sna 0) wd (wma 0) x (hea 0)) (fun x => rentM cl (fm 0) (ai 0) (sna 0) wd (wma 0) x) x < ((100 * (cntClr cl (fm 0) (ai 0) (sna 0) wd (wma 0) x (hea 0)) + (rentM cl (fm 0) (ai 0) (sna 0) wd (wma 0) x) : Nat) : Int) from by omega)
            have hl : lv_has ls 7 [(4, .int (nI (x + 1))), (2, .int (nI ((argM (fun x => cntClr cl (fm 0) (ai 0) (sna 0) wd (wma 0) x (hea 0)) (fun x => rentM cl (fm 0) (ai 0) (sna 0) wd (wma 0) x) (x + 1)).1))), (3, .int (iI (pmM (fun x => cntClr cl (fm 0) (ai 0) (sna 0) wd (wma 0) x (hea 0)) (fun x => rentM cl (fm 0) (ai 0) (sna 0) wd (wma 0) x) (x + 1)))), (0, .ref rr), (1, .int (nI 1))] := by have h := hl; rw [e.1, e.2]; have h := lv_sub h [0, 2, 1, 5, 6] rfl; simp only [nI_iI] at h ⊢; exact h
            exact ih22 (x + 1) ((hearM cl (fm 0) (ai 0) (sna 0) wd (wma 0) x x (2 ^ (wma 0) - 1)).1) ((hearM cl (fm 0) (ai 0) (sna 0) wd (wma 0) x x (2 ^ (wma 0) - 1)).2) (by omega) (by omega) _ _ (hP.sub [2, 3, 4, 5, 6, 7, 8, 9, 10, 11, 12, 0, 1, 13, 14] rfl) (hD.sub [2, 3, 4, 5, 6, 7, 8, 9, 10, 11, 12, 0, 1, 13, 14] rfl rfl) hS _ (lv_sub hl [0, 1, 2, 3, 4] rfl)
    exact loop22 _ 0 lg vg (Nat.lt_succ_self _) (by omega) _ _ (hP.sub [0, 1, 2, 3, 4, 5, 6, 7, 8, 9, 10, 11, 12, 13, 14] rfl) (hD.sub [0, 1, 2, 3, 4, 5, 6, 7, 8, 9, 10, 11, 12, 13, 14] rfl rfl) hS _ (lv_sub hl [0, 2, 1, 3, 4] rfl)
  · exact False.elim (by omega)

set_option maxRecDepth 100000 in
set_option maxHeartbeats 4000000 in
theorem c_X7_place_2 (l : Launch) (D : va_G) (cI cC : ClassId) (rr : Nat) (ad : Nat → Nat) (len : Nat) (kp : Nat) (uo : Nat) (tm : Nat) (em : Nat) (pc0 : Nat) (fm : Nat → Nat) (pq : Nat → Nat) (dq : Nat → Nat) (kq : Nat → Nat) (ai : Nat → Nat) (sna : Nat → Nat) (wma : Nat → Nat) (be : Nat → Nat) (va : Nat → Nat) (lo : Nat → Nat) (spa : Nat → Nat) (hea : Nat → Nat) (lg : Nat → Nat) (vg : Nat → Nat) (cl : Nat → Nat) (hrc : relC pq dq kq cl (fm 0)) (hok : okC cl (fm 0)) (hfm : fm 0 ≤ 4 ∧ ai 0 ≤ 99 ∧ sna 0 < 2147483648) (wd : Nat → Nat) (hrd : relD be va lo wd (wma 0)) (hokd : okD wd (wma 0)) (hnw : wma 0 ≤ 8) (hsp : spa 0 ≤ 40 ∧ hea 0 ≤ 40) : mtI l D cI cC yX7_place wsX7_place ({ frames := 5, cells := 0, slots := 0, locals := 120 }) [.ref rr, .int (nI 2)] [(rr, eMod ad len kp uo tm em pc0), (ad 2, eArr cI 2 fm), (ad 3, eArr cI 8 pq), (ad 4, eArr cI 8 dq), (ad 5, eArr cI 8 kq), (ad 6, eArr cI 2 ai), (ad 13, eArr cI 4 sna), (ad 7, eArr cI 4 wma), (ad 8, eArr cI 32 be), (ad 9, eArr cI 32 va), (ad 10, eArr cI 32 lo), (ad 11, eArr cI 4 spa), (ad 12, eArr cI 4 hea), (ad 20, eArr cI 150 lg), (ad 21, eArr cI 150 vg)] (fun (r : Int32) ((lg', vg') : (Nat → Nat) × (Nat → Nat)) => r = (nI ((argM (fun y => cntClr cl (fm 0) (ai 0) (sna 0) wd (wma 0) (spa 0) y) (fun _ => 0) 41).1))) (fun ((lg', vg') : (Nat → Nat) × (Nat → Nat)) => [(rr, eMod ad len kp uo tm em pc0), (ad 2, eArr cI 2 fm), (ad 3, eArr cI 8 pq), (ad 4, eArr cI 8 dq), (ad 5, eArr cI 8 kq), (ad 6, eArr cI 2 ai), (ad 13, eArr cI 4 sna), (ad 7, eArr cI 4 wma), (ad 8, eArr cI 32 be), (ad 9, eArr cI 32 va), (ad 10, eArr cI 32 lo), (ad 11, eArr cI 4 spa), (ad 12, eArr cI 4 hea), (ad 20, eArr cI 150 lg'), (ad 21, eArr cI 150 vg')]) := by
  refine mtI_of (cc := cX7_place) (maxL := 7) (ret := (some .int)) (by decide) rfl rfl ?_
  intro p e s m below meth c A hx hb hml hr hts hown hlocks hN hA hK hP hD hS ls hl
  have hown : s.vm.findClass RX7 = some m.cls := hown
  have hl : lv_has ls 7 [(0, .ref rr), (1, .int (nI 2))] := hl
  obtain ⟨H, hHe⟩ : ∃ H, H = s.heap := ⟨_, rfl⟩
  rw [← hHe] at hP ⊢
  have hS : va_S A s.heap H [] := by rw [hHe]; exact va_S.rf
  have fl40 := hts (.fieldLink RX7 40 "EchoPaysRentModel" "speaker" "[I") (by decide +kernel)
  have inX7 : ∀ w ∈ wsX70, w ∈ wsX7_place := by decide +kernel
  refine lv_iload_n hx hb dX7_place_0 rfl (lv_at hl 1 rfl) ?_
  refine n_i2l hx hb dX7_place_1 (by omega) ?_
  refine lv_lconst (v := lN 0) hx hb dX7_place_2 rfl ?_
  refine lv_ldc2 (v := lN 3) hx hb hown (hts (.constantLong RX7 184 3) (by decide +kernel)) dX7_place_3 ?_
  refine k_S (As := [.long (lI (((2 : Nat) : Int))), .long (lI (((0 : Nat) : Int))), .long (lI (((3 : Nat) : Int)))]) (wr := [(rr, eMod ad len kp uo tm em pc0), (ad 2, eArr cI 2 fm), (ad 3, eArr cI 8 pq), (ad 4, eArr cI 8 dq), (ad 5, eArr cI 8 kq), (ad 6, eArr cI 2 ai), (ad 13, eArr cI 4 sna), (ad 7, eArr cI 4 wma), (ad 8, eArr cI 32 be), (ad 9, eArr cI 32 va), (ad 10, eArr cI 32 lo), (ad 11, eArr cI 4 spa), (ad 12, eArr cI 4 hea), (ad 20, eArr cI 150 lg), (ad 21, eArr cI 150 vg)]) ⟨hx, hb, hml, hown, hts⟩ (c_X7_in l D cI cC (((2 : Nat) : Int)) (((0 : Nat) : Int)) (((3 : Nat) : Int)) (by omega) (by omega) (by omega)) (cwS 3 hts gX7_place_X7_in rfl rfl rfl (by decide +kernel) ⟨Nat.le_of_ble_eq_true rfl, Nat.le_of_ble_eq_true rfl⟩) rfl hl.1 (by simp only [nI_iI, lN_lI]; rfl) (Nat.le_of_ble_eq_true rfl) dX7_place_6 ⟨Nat.zero_le _, Nat.zero_le _⟩ hN hK hP hD hS hA [] [0, 1, 2, 3, 4, 5, 6, 7, 8, 9, 10, 11, 12, 13, 14] rfl rfl ⟨rfl, rfl, by decide⟩ (fun r1 u H locs w2 hP hD hS => ?_)
  obtain ⟨rfl, h3, h4⟩ | ⟨rfl, h5⟩ : (r1 = (nI 1) ∧ (((0 : Nat) : Int)) ≤ (((2 : Nat) : Int)) ∧ (((2 : Nat) : Int)) ≤ (((3 : Nat) : Int))) ∨ (r1 = (nI 0) ∧ ((((2 : Nat) : Int)) < (((0 : Nat) : Int)) ∨ (((3 : Nat) : Int)) < (((2 : Nat) : Int)))) := w2
  · refine x_if_ne (tgt := 14) hx hb dX7_place_9 (by decide) (by omega) (fun h6 => ?_) (fun h6 => False.elim (by omega))
    refine lv_iconst (v := (nI 0)) hx hb dX7_place_14 (by decide) ?_
    refine lv_istore_n (lv' := [(2, .int (nI 0)), (0, .ref rr), (1, .int (nI 2))]) hx hb dX7_place_15 rfl hl (by decide) rfl (fun ls hl => ?_)
    refine lv_bipush (v := (iI (-4))) hx hb dX7_place_16 (by decide) ?_
    refine lv_istore_n (lv' := [(3, .int (iI (-4))), (2, .int (nI 0)), (0, .ref rr), (1, .int (nI 2))]) hx hb dX7_place_18 rfl hl (by decide) rfl (fun ls hl => ?_)
    refine lv_iconst (v := (nI 0)) hx hb dX7_place_19 (by decide) ?_
    refine lv_istore (lv' := [(4, .int (nI 0)), (3, .int (iI (-4))), (2, .int (nI 0)), (0, .ref rr), (1, .int (nI 2))]) hx hb dX7_place_20 hl (by decide) rfl (fun ls hl => ?_)
    have loop22 : ∀ (nn22 : Nat) (x : Nat) (lg' : Nat → Nat) (vg' : Nat → Nat), 41 - x < nn22 → (x ≤ 41) → ∀ (H : Heap) (locs : List Loc), va_P D vwCl [(rr, eMod ad len kp uo tm em pc0), (ad 2, eArr cI 2 fm), (ad 3, eArr cI 8 pq), (ad 4, eArr cI 8 dq), (ad 5, eArr cI 8 kq), (ad 6, eArr cI 2 ai), (ad 13, eArr cI 4 sna), (ad 7, eArr cI 4 wma), (ad 8, eArr cI 32 be), (ad 9, eArr cI 32 va), (ad 10, eArr cI 32 lo), (ad 11, eArr cI 4 spa), (ad 12, eArr cI 4 hea), (ad 20, eArr cI 150 lg'), (ad 21, eArr cI 150 vg')] H → va_D A [(rr, eMod ad len kp uo tm em pc0), (ad 2, eArr cI 2 fm), (ad 3, eArr cI 8 pq), (ad 4, eArr cI 8 dq), (ad 5, eArr cI 8 kq), (ad 6, eArr cI 2 ai), (ad 13, eArr cI 4 sna), (ad 7, eArr cI 4 wma), (ad 8, eArr cI 32 be), (ad 9, eArr cI 32 va), (ad 10, eArr cI 32 lo), (ad 11, eArr cI 4 spa), (ad 12, eArr cI 4 hea), (ad 20, eArr cI 150 lg'), (ad 21, eArr cI 150 vg')] → va_S A s.heap H locs → ∀ ls : Array Slot, lv_has ls 7 [(4, .int (nI x)), (2, .int (nI ((argM (fun y => cntClr cl (fm 0) (ai 0) (sna 0) wd (wma 0) (spa 0) y) (fun _ => 0) x).1))), (3, .int (iI (pmM (fun y => cntClr cl (fm 0) (ai 0) (sna 0) wd (wma 0) (spa 0) y) (fun _ => 0) x))), (0, .ref rr), (1, .int (nI 2))] → W p l e (headSpec wsX7_place ({ frames := 5, cells := 0, slots := 0, locals := 120 })).room s m ([.ref rr, .int (nI 2)] : List Value).toArray below meth c H locs 0 0 (MQ below (va_Qi (fun (r : Int32) ((lg', vg') : (Nat → Nat) × (Nat → Nat)) => r = (nI ((argM (fun y => cntClr cl (fm 0) (ai 0) (sna 0) wd (wma 0) (spa 0) y) (fun _ => 0) 41).1))) (ctB D cI cC (fun ((lg', vg') : (Nat → Nat) × (Nat → Nat)) => [(rr, eMod ad len kp uo tm em pc0), (ad 2, eArr cI 2 fm), (ad 3, eArr cI 8 pq), (ad 4, eArr cI 8 dq), (ad 5, eArr cI 8 kq), (ad 6, eArr cI 2 ai), (ad 13, eArr cI 4 sna), (ad 7, eArr cI 4 wma), (ad 8, eArr cI 32 be), (ad 9, eArr cI 32 va), (ad 10, eArr cI 32 lo), (ad 11, eArr cI 4 spa), (ad 12, eArr cI 4 hea), (ad 20, eArr cI 150 lg'), (ad 21, eArr cI 150 vg')]) A) A) ([.ref rr, .int (nI 2)] : List Value).toArray s 0 0 A) (F0 m 22 ls []) := by
      intro nn22
      induction nn22 with
      | zero =>
        intro x lg' vg' hm7
        exact absurd hm7 (Nat.not_lt_zero _)
      | succ nn22 ih22 =>
        intro x lg' vg' hm7 hi8 H locs hP hD hS ls hl
        refine lv_iload hx hb dX7_place_22 (lv_at hl 0 rfl) ?_
        refine lv_bipush (v := (nI 40)) hx hb dX7_place_24 (by decide) ?_
        refine x_icmp_gt (tgt := 118) hx hb dX7_place_26 (by decide) (by omega) (by omega) (fun h9 => ?_) (fun h9 => ?_)
        · obtain rfl : x = 41 := by omega
          refine lv_iload_n hx hb dX7_place_118 rfl (lv_at hl 4 rfl) ?_
          refine lv_iconst (v := (nI 2)) hx hb dX7_place_119 (by decide) ?_
          refine x_irem hx hb dX7_place_120 (by omega) (by omega) (by omega) ?_
          refine x_if_ne (tgt := 128) hx hb dX7_place_121 (by decide) (by omega) (fun h10 => False.elim (by omega)) (fun h10 => ?_)
          refine lv_iload_n hx hb dX7_place_124 rfl (lv_at hl 1 rfl) ?_
          refine lv_goto (tgt := 132) hx hb dX7_place_125 (by decide) ?_
          exact x_iret hx hb hr hlocks dX7_place_132 rfl (post := fun (r : Int32) ((lg', vg') : (Nat → Nat) × (Nat → Nat)) => r = (nI ((argM (fun y => cntClr cl (fm 0) (ai 0) (sna 0) wd (wma 0) (spa 0) y) (fun _ => 0) 41).1))) (w1 := fun ((lg', vg') : (Nat → Nat) × (Nat → Nat)) => [(rr, eMod ad len kp uo tm em pc0), (ad 2, eArr cI 2 fm), (ad 3, eArr cI 8 pq), (ad 4, eArr cI 8 dq), (ad 5, eArr cI 8 kq), (ad 6, eArr cI 2 ai), (ad 13, eArr cI 4 sna), (ad 7, eArr cI 4 wma), (ad 8, eArr cI 32 be), (ad 9, eArr cI 32 va), (ad 10, eArr cI 32 lo), (ad 11, eArr cI 4 spa), (ad 12, eArr cI 4 hea), (ad 20, eArr cI 150 lg'), (ad 21, eArr cI 150 vg')]) (lg', vg') rfl hK hP hD hS
        · have hpb := pmM_bd (F := (fun y => cntClr cl (fm 0) (ai 0) (sna 0) wd (wma 0) (spa 0) y)) (G := (fun _ => 0)) (fun q => cntClr_le _ _ _ _ _ _ _ _) (fun _ => Nat.zero_le _) x
          have hcl := cntClr_le cl (fm 0) (ai 0) (sna 0) wd (wma 0) (spa 0) x
          refine lv_iload_n hx hb dX7_place_29 rfl (lv_at hl 4 rfl) ?_
          refine lv_iconst (v := (nI 2)) hx hb dX7_place_30 (by decide) ?_
          refine x_icmp_ge (tgt := 49) hx hb dX7_place_31 (by decide) (by omega) (by omega) (fun h11 => ?_) (fun h11 => False.elim (by omega))
          refine lv_aload_n hx hb dX7_place_49 rfl (lv_at hl 3 rfl) ?_
          refine lv_aload_n hx hb dX7_place_50 rfl (lv_at hl 3 rfl) ?_
          refine va_get (D := D) (ci := 7) (v := .ref (ad 11)) (C := RX7) (T := TX7) (N := 28) hx hb hts inX7 hown hK hP 0 rfl rfl 11 (by decide) fl40 (fun _ h9 => h9) rfl dX7_place_51 ?_
          refine lv_iconst (v := (nI 0)) hx hb dX7_place_54 (by decide) ?_
          refine x_iald (A := A) hx hb hK hP 11 0 rfl rfl dX7_place_55 (by omega) (by omega) ?_
          refine lv_iload hx hb dX7_place_56 (lv_at hl 0 rfl) ?_
          refine k_V (q := (RX7, TX7, 28)) (ci := 7) (As := [.int (nI (spa 0)), .int (nI x)]) (wr := [(ad 11, eArr cI 4 spa), (ad 12, eArr cI 4 hea)]) ⟨hx, hb, hml, hown, hts⟩ (c_X7_clearMany l D cI cC rr ad len kp uo tm em pc0 fm pq dq kq ai sna wma be va lo lg' vg' cl hrc hok (by omega) wd hrd hokd (by omega) (spa 0) x (by omega)) (cwV 2 hts gX7_place_X7_clearMany rfl rfl rfl (by decide +kernel) ⟨Nat.le_of_ble_eq_true rfl, Nat.le_of_ble_eq_true rfl⟩) rfl hl.1 rfl (Nat.le_of_ble_eq_true rfl) dX7_place_58 ⟨Nat.zero_le _, Nat.zero_le _⟩ hN hK hP hD hS hA rfl (q0 := 0) rfl [0, 1, 2, 3, 4, 5, 6, 7, 8, 9, 10, 13, 14] [11, 12] rfl rfl ⟨rfl, rfl, by decide⟩ (fun r12 u H locs w13 hP hD hS => ?_)
          obtain rfl : r12 = (nI (cntClr cl (fm 0) (ai 0) (sna 0) wd (wma 0) (spa 0) x)) := w13
          refine lv_istore (lv' := [(5, .int (nI (cntClr cl (fm 0) (ai 0) (sna 0) wd (wma 0) (spa 0) x))), (4, .int (nI x)), (2, .int (nI ((argM (fun y => cntClr cl (fm 0) (ai 0) (sna 0) wd (wma 0) (spa 0) y) (fun _ => 0) x).1))), (3, .int (iI (pmM (fun y => cntClr cl (fm 0) (ai 0) (sna 0) wd (wma 0) (spa 0) y) (fun _ => 0) x))), (0, .ref rr), (1, .int (nI 2))]) hx hb dX7_place_61 hl (by decide) rfl (fun ls hl => ?_)
          refine lv_bipush (v := (nI 100)) hx hb dX7_place_63 (by decide) ?_
          refine lv_iload hx hb dX7_place_65 (lv_at hl 0 rfl) ?_
          refine x_imul hx hb dX7_place_67 ?_
          refine lv_iload_n hx hb dX7_place_68 rfl (lv_at hl 5 rfl) ?_
          refine lv_iconst (v := (nI 2)) hx hb dX7_place_69 (by decide) ?_
          refine x_icmp_ge (tgt := 82) hx hb dX7_place_70 (by decide) (by omega) (by omega) (fun h14 => ?_) (fun h14 => False.elim (by omega))
          refine lv_iconst (v := (nI 0)) hx hb dX7_place_82 (by decide) ?_
          refine x_iadd hx hb dX7_place_83 ?_
          refine lv_istore (lv' := [(6, .int (nI (100 * (cntClr cl (fm 0) (ai 0) (sna 0) wd (wma 0) (spa 0) x) + 0))), (5, .int (nI (cntClr cl (fm 0) (ai 0) (sna 0) wd (wma 0) (spa 0) x))), (4, .int (nI x)), (2, .int (nI ((argM (fun y => cntClr cl (fm 0) (ai 0) (sna 0) wd (wma 0) (spa 0) y) (fun _ => 0) x).1))), (3, .int (iI (pmM (fun y => cntClr cl (fm 0) (ai 0) (sna 0) wd (wma 0) (spa 0) y) (fun _ => 0) x))), (0, .ref rr), (1, .int (nI 2))]) hx hb dX7_place_84 hl (by decide) rfl (fun ls hl => ?_)
          refine lv_iload hx hb dX7_place_86 (lv_at hl 0 rfl) ?_
          refine lv_iload_n hx hb dX7_place_88 rfl (lv_at hl 4 rfl) ?_
          refine x_top2 (nI_iI _) ?_
          refine z_icmp_le (tgt := 97) hx hb dX7_place_89 (by decide) (by omega) (by omega) (fun h15 => ?_) (fun h15 => ?_)
          · refine lv_iload_n hx hb dX7_place_97 rfl (lv_at hl 3 rfl) ?_
            refine lv_istore_n (lv' := [(2, .int (nI ((argM (fun y => cntClr cl (fm 0) (ai 0) (sna 0) wd (wma 0) (spa 0) y) (fun _ => 0) x).1))), (6, .int (nI (100 * (cntClr cl (fm 0) (ai 0) (sna 0) wd (wma 0) (spa 0) x) + 0))), (5, .int (nI (cntClr cl (fm 0) (ai 0) (sna 0) wd (wma 0) (spa 0) x))), (4, .int (nI x)), (3, .int (iI (pmM (fun y => cntClr cl (fm 0) (ai 0) (sna 0) wd (wma 0) (spa 0) y) (fun _ => 0) x))), (0, .ref rr), (1, .int (nI 2))]) hx hb dX7_place_98 rfl hl (by decide) rfl (fun ls hl => ?_)
            refine lv_iload hx hb dX7_place_99 (lv_at hl 1 rfl) ?_
            refine lv_iload_n hx hb dX7_place_101 rfl (lv_at hl 4 rfl) ?_
            refine x_top2 (nI_iI _) ?_
            refine z_icmp_le (tgt := 110) hx hb dX7_place_102 (by decide) (by omega) (by omega) (fun h16 => ?_) (fun h16 => False.elim (by omega))
            refine lv_iload_n hx hb dX7_place_110 rfl (lv_at hl 4 rfl) ?_
            refine lv_istore_n (lv' := [(3, .int (iI (pmM (fun y => cntClr cl (fm 0) (ai 0) (sna 0) wd (wma 0) (spa 0) y) (fun _ => 0) x))), (2, .int (nI ((argM (fun y => cntClr cl (fm 0) (ai 0) (sna 0) wd (wma 0) (spa 0) y) (fun _ => 0) x).1))), (6, .int (nI (100 * (cntClr cl (fm 0) (ai 0) (sna 0) wd (wma 0) (spa 0) x) + 0))), (5, .int (nI (cntClr cl (fm 0) (ai 0) (sna 0) wd (wma 0) (spa 0) x))), (4, .int (nI x)), (0, .ref rr), (1, .int (nI 2))]) hx hb dX7_place_111 rfl hl (by decide) rfl (fun ls hl => ?_)
            refine lv_iinc (v := (nI (x + 1))) (lv' := [(4, .int (nI (x + 1))), (3, .int (iI (pmM (fun y => cntClr cl (fm 0) (ai 0) (sna 0) wd (wma 0) (spa 0) y) (fun _ => 0) x))), (2, .int (nI ((argM (fun y => cntClr cl (fm 0) (ai 0) (sna 0) wd (wma 0) (spa 0) y) (fun _ => 0) x).1))), (6, .int (nI (100 * (cntClr cl (fm 0) (ai 0) (sna 0) wd (wma 0) (spa 0) x) + 0))), (5, .int (nI (cntClr cl (fm 0) (ai 0) (sna 0) wd (wma 0) (spa 0) x))), (0, .ref rr), (1, .int (nI 2))]) hx hb dX7_place_112 hl (k := 4) rfl (nI_inc _ 1) (by decide) rfl (fun ls hl => ?_)
            refine lv_goto (tgt := 22) hx hb dX7_place_115 (by decide) ?_
            have e := pmM_le (F := (fun y => cntClr cl (fm 0) (ai 0) (sna 0) wd (wma 0) (spa 0) y)) (G := (fun _ => 0)) (x := x) (fun q => cntClr_le _ _ _ _ _ _ _ _) (fun _ => Nat.zero_le _) (show ((100 * (cntClr cl (fm 0) (ai 0) (sna 0) wd (wma 0) (spa 0) x) + 0 : Nat) : Int) ≤ pmM (fun y => cntClr cl (fm 0) (ai 0) (sna 0) wd (wma 0) (spa 0) y) (fun _ => 0) x from by omega)
            have hl : lv_has ls 7 [(4, .int (nI (x + 1))), (2, .int (nI ((argM (fun y => cntClr cl (fm 0) (ai 0) (sna 0) wd (wma 0) (spa 0) y) (fun _ => 0) (x + 1)).1))), (3, .int (iI (pmM (fun y => cntClr cl (fm 0) (ai 0) (sna 0) wd (wma 0) (spa 0) y) (fun _ => 0) (x + 1)))), (0, .ref rr), (1, .int (nI 2))] := by have h := hl; rw [e.1, e.2]; have h := lv_sub h [0, 2, 1, 5, 6] rfl; simp only [nI_iI] at h ⊢; exact h
            exact ih22 (x + 1) ((hearM cl (fm 0) (ai 0) (sna 0) wd (wma 0) (spa 0) x (2 ^ (wma 0) - 1)).1) ((hearM cl (fm 0) (ai 0) (sna 0) wd (wma 0) (spa 0) x (2 ^ (wma 0) - 1)).2) (by omega) (by omega) _ _ (hP.sub [2, 3, 4, 5, 6, 7, 8, 9, 10, 11, 12, 0, 1, 13, 14] rfl) (hD.sub [2, 3, 4, 5, 6, 7, 8, 9, 10, 11, 12, 0, 1, 13, 14] rfl rfl) hS _ (lv_sub hl [0, 1, 2, 3, 4] rfl)
          · refine lv_iload hx hb dX7_place_92 (lv_at hl 2 rfl) ?_
            refine lv_goto (tgt := 98) hx hb dX7_place_94 (by decide) ?_
            refine lv_istore_n (lv' := [(2, .int (nI x)), (6, .int (nI (100 * (cntClr cl (fm 0) (ai 0) (sna 0) wd (wma 0) (spa 0) x) + 0))), (5, .int (nI (cntClr cl (fm 0) (ai 0) (sna 0) wd (wma 0) (spa 0) x))), (4, .int (nI x)), (3, .int (iI (pmM (fun y => cntClr cl (fm 0) (ai 0) (sna 0) wd (wma 0) (spa 0) y) (fun _ => 0) x))), (0, .ref rr), (1, .int (nI 2))]) hx hb dX7_place_98 rfl hl (by decide) rfl (fun ls hl => ?_)
            refine lv_iload hx hb dX7_place_99 (lv_at hl 1 rfl) ?_
            refine lv_iload_n hx hb dX7_place_101 rfl (lv_at hl 4 rfl) ?_
            refine x_top2 (nI_iI _) ?_
            refine z_icmp_le (tgt := 110) hx hb dX7_place_102 (by decide) (by omega) (by omega) (fun h17 => False.elim (by omega)) (fun h17 => ?_)
            refine lv_iload hx hb dX7_place_105 (lv_at hl 1 rfl) ?_
            refine lv_goto (tgt := 111) hx hb dX7_place_107 (by decide) ?_
            refine lv_istore_n (lv' := [(3, .int (nI (100 * (cntClr cl (fm 0) (ai 0) (sna 0) wd (wma 0) (spa 0) x) + 0))), (2, .int (nI x)), (6, .int (nI (100 * (cntClr cl (fm 0) (ai 0) (sna 0) wd (wma 0) (spa 0) x) + 0))), (5, .int (nI (cntClr cl (fm 0) (ai 0) (sna 0) wd (wma 0) (spa 0) x))), (4, .int (nI x)), (0, .ref rr), (1, .int (nI 2))]) hx hb dX7_place_111 rfl hl (by decide) rfl (fun ls hl => ?_)
            refine lv_iinc (v := (nI (x + 1))) (lv' := [(4, .int (nI (x + 1))), (3, .int (nI (100 * (cntClr cl (fm 0) (ai 0) (sna 0) wd (wma 0) (spa 0) x) + 0))), (2, .int (nI x)), (6, .int (nI (100 * (cntClr cl (fm 0) (ai 0) (sna 0) wd (wma 0) (spa 0) x) + 0))), (5, .int (nI (cntClr cl (fm 0) (ai 0) (sna 0) wd (wma 0) (spa 0) x))), (0, .ref rr), (1, .int (nI 2))]) hx hb dX7_place_112 hl (k := 4) rfl (nI_inc _ 1) (by decide) rfl (fun ls hl => ?_)
            refine lv_goto (tgt := 22) hx hb dX7_place_115 (by decide) ?_
            have e := pmM_gt (F := (fun y => cntClr cl (fm 0) (ai 0) (sna 0) wd (wma 0) (spa 0) y)) (G := (fun _ => 0)) (x := x) (fun q => cntClr_le _ _ _ _ _ _ _ _) (fun _ => Nat.zero_le _) (show pmM (fun y => cntClr cl (fm 0) (ai 0) (sna 0) wd (wma 0) (spa 0) y) (fun _ => 0) x < ((100 * (cntClr cl (fm 0) (ai 0) (sna 0) wd (wma 0) (spa 0) x) + 0 : Nat) : Int) from by omega)
            have hl : lv_has ls 7 [(4, .int (nI (x + 1))), (2, .int (nI ((argM (fun y => cntClr cl (fm 0) (ai 0) (sna 0) wd (wma 0) (spa 0) y) (fun _ => 0) (x + 1)).1))), (3, .int (iI (pmM (fun y => cntClr cl (fm 0) (ai 0) (sna 0) wd (wma 0) (spa 0) y) (fun _ => 0) (x + 1)))), (0, .ref rr), (1, .int (nI 2))] := by have h := hl; rw [e.1, e.2]; have h := lv_sub h [0, 2, 1, 5, 6] rfl; simp only [nI_iI] at h ⊢; exact h
            exact ih22 (x + 1) ((hearM cl (fm 0) (ai 0) (sna 0) wd (wma 0) (spa 0) x (2 ^ (wma 0) - 1)).1) ((hearM cl (fm 0) (ai 0) (sna 0) wd (wma 0) (spa 0) x (2 ^ (wma 0) - 1)).2) (by omega) (by omega) _ _ (hP.sub [2, 3, 4, 5, 6, 7, 8, 9, 10, 11, 12, 0, 1, 13, 14] rfl) (hD.sub [2, 3, 4, 5, 6, 7, 8, 9, 10, 11, 12, 0, 1, 13, 14] rfl rfl) hS _ (lv_sub hl [0, 1, 2, 3, 4] rfl)
    exact loop22 _ 0 lg vg (Nat.lt_succ_self _) (by omega) _ _ (hP.sub [0, 1, 2, 3, 4, 5, 6, 7, 8, 9, 10, 11, 12, 13, 14] rfl) (hD.sub [0, 1, 2, 3, 4, 5, 6, 7, 8, 9, 10, 11, 12, 13, 14] rfl rfl) hS _ (lv_sub hl [0, 2, 1, 3, 4] rfl)
  · exact False.elim (by omega)

set_option maxRecDepth 100000 in
set_option maxHeartbeats 4000000 in
theorem c_X7_place_3 (l : Launch) (D : va_G) (cI cC : ClassId) (rr : Nat) (ad : Nat → Nat) (len : Nat) (kp : Nat) (uo : Nat) (tm : Nat) (em : Nat) (pc0 : Nat) (fm : Nat → Nat) (pq : Nat → Nat) (dq : Nat → Nat) (kq : Nat → Nat) (ai : Nat → Nat) (sna : Nat → Nat) (wma : Nat → Nat) (be : Nat → Nat) (va : Nat → Nat) (lo : Nat → Nat) (spa : Nat → Nat) (hea : Nat → Nat) (lg : Nat → Nat) (vg : Nat → Nat) (cl : Nat → Nat) (hrc : relC pq dq kq cl (fm 0)) (hok : okC cl (fm 0)) (hfm : fm 0 ≤ 4 ∧ ai 0 ≤ 99 ∧ sna 0 < 2147483648) (wd : Nat → Nat) (hrd : relD be va lo wd (wma 0)) (hokd : okD wd (wma 0)) (hnw : wma 0 ≤ 8) (hsp : spa 0 ≤ 40 ∧ hea 0 ≤ 40) : mtI l D cI cC yX7_place wsX7_place ({ frames := 5, cells := 0, slots := 0, locals := 120 }) [.ref rr, .int (nI 3)] [(rr, eMod ad len kp uo tm em pc0), (ad 2, eArr cI 2 fm), (ad 3, eArr cI 8 pq), (ad 4, eArr cI 8 dq), (ad 5, eArr cI 8 kq), (ad 6, eArr cI 2 ai), (ad 13, eArr cI 4 sna), (ad 7, eArr cI 4 wma), (ad 8, eArr cI 32 be), (ad 9, eArr cI 32 va), (ad 10, eArr cI 32 lo), (ad 11, eArr cI 4 spa), (ad 12, eArr cI 4 hea), (ad 20, eArr cI 150 lg), (ad 21, eArr cI 150 vg)] (fun (r : Int32) ((lg', vg') : (Nat → Nat) × (Nat → Nat)) => r = (nI (cntClr cl (fm 0) (ai 0) (sna 0) wd (wma 0) (spa 0) ((argM (fun y => cntClr cl (fm 0) (ai 0) (sna 0) wd (wma 0) (spa 0) y) (fun _ => 0) 41).1)))) (fun ((lg', vg') : (Nat → Nat) × (Nat → Nat)) => [(rr, eMod ad len kp uo tm em pc0), (ad 2, eArr cI 2 fm), (ad 3, eArr cI 8 pq), (ad 4, eArr cI 8 dq), (ad 5, eArr cI 8 kq), (ad 6, eArr cI 2 ai), (ad 13, eArr cI 4 sna), (ad 7, eArr cI 4 wma), (ad 8, eArr cI 32 be), (ad 9, eArr cI 32 va), (ad 10, eArr cI 32 lo), (ad 11, eArr cI 4 spa), (ad 12, eArr cI 4 hea), (ad 20, eArr cI 150 lg'), (ad 21, eArr cI 150 vg')]) := by
  refine mtI_of (cc := cX7_place) (maxL := 7) (ret := (some .int)) (by decide) rfl rfl ?_
  intro p e s m below meth c A hx hb hml hr hts hown hlocks hN hA hK hP hD hS ls hl
  have hown : s.vm.findClass RX7 = some m.cls := hown
  have hl : lv_has ls 7 [(0, .ref rr), (1, .int (nI 3))] := hl
  obtain ⟨H, hHe⟩ : ∃ H, H = s.heap := ⟨_, rfl⟩
  rw [← hHe] at hP ⊢
  have hS : va_S A s.heap H [] := by rw [hHe]; exact va_S.rf
  have fl40 := hts (.fieldLink RX7 40 "EchoPaysRentModel" "speaker" "[I") (by decide +kernel)
  have inX7 : ∀ w ∈ wsX70, w ∈ wsX7_place := by decide +kernel
  refine lv_iload_n hx hb dX7_place_0 rfl (lv_at hl 1 rfl) ?_
  refine n_i2l hx hb dX7_place_1 (by omega) ?_
  refine lv_lconst (v := lN 0) hx hb dX7_place_2 rfl ?_
  refine lv_ldc2 (v := lN 3) hx hb hown (hts (.constantLong RX7 184 3) (by decide +kernel)) dX7_place_3 ?_
  refine k_S (As := [.long (lI (((3 : Nat) : Int))), .long (lI (((0 : Nat) : Int))), .long (lI (((3 : Nat) : Int)))]) (wr := [(rr, eMod ad len kp uo tm em pc0), (ad 2, eArr cI 2 fm), (ad 3, eArr cI 8 pq), (ad 4, eArr cI 8 dq), (ad 5, eArr cI 8 kq), (ad 6, eArr cI 2 ai), (ad 13, eArr cI 4 sna), (ad 7, eArr cI 4 wma), (ad 8, eArr cI 32 be), (ad 9, eArr cI 32 va), (ad 10, eArr cI 32 lo), (ad 11, eArr cI 4 spa), (ad 12, eArr cI 4 hea), (ad 20, eArr cI 150 lg), (ad 21, eArr cI 150 vg)]) ⟨hx, hb, hml, hown, hts⟩ (c_X7_in l D cI cC (((3 : Nat) : Int)) (((0 : Nat) : Int)) (((3 : Nat) : Int)) (by omega) (by omega) (by omega)) (cwS 3 hts gX7_place_X7_in rfl rfl rfl (by decide +kernel) ⟨Nat.le_of_ble_eq_true rfl, Nat.le_of_ble_eq_true rfl⟩) rfl hl.1 (by simp only [nI_iI, lN_lI]; rfl) (Nat.le_of_ble_eq_true rfl) dX7_place_6 ⟨Nat.zero_le _, Nat.zero_le _⟩ hN hK hP hD hS hA [] [0, 1, 2, 3, 4, 5, 6, 7, 8, 9, 10, 11, 12, 13, 14] rfl rfl ⟨rfl, rfl, by decide⟩ (fun r1 u H locs w2 hP hD hS => ?_)
  obtain ⟨rfl, h3, h4⟩ | ⟨rfl, h5⟩ : (r1 = (nI 1) ∧ (((0 : Nat) : Int)) ≤ (((3 : Nat) : Int)) ∧ (((3 : Nat) : Int)) ≤ (((3 : Nat) : Int))) ∨ (r1 = (nI 0) ∧ ((((3 : Nat) : Int)) < (((0 : Nat) : Int)) ∨ (((3 : Nat) : Int)) < (((3 : Nat) : Int)))) := w2
  · refine x_if_ne (tgt := 14) hx hb dX7_place_9 (by decide) (by omega) (fun h6 => ?_) (fun h6 => False.elim (by omega))
    refine lv_iconst (v := (nI 0)) hx hb dX7_place_14 (by decide) ?_
    refine lv_istore_n (lv' := [(2, .int (nI 0)), (0, .ref rr), (1, .int (nI 3))]) hx hb dX7_place_15 rfl hl (by decide) rfl (fun ls hl => ?_)
    refine lv_bipush (v := (iI (-4))) hx hb dX7_place_16 (by decide) ?_
    refine lv_istore_n (lv' := [(3, .int (iI (-4))), (2, .int (nI 0)), (0, .ref rr), (1, .int (nI 3))]) hx hb dX7_place_18 rfl hl (by decide) rfl (fun ls hl => ?_)
    refine lv_iconst (v := (nI 0)) hx hb dX7_place_19 (by decide) ?_
    refine lv_istore (lv' := [(4, .int (nI 0)), (3, .int (iI (-4))), (2, .int (nI 0)), (0, .ref rr), (1, .int (nI 3))]) hx hb dX7_place_20 hl (by decide) rfl (fun ls hl => ?_)
    have loop22 : ∀ (nn22 : Nat) (x : Nat) (lg' : Nat → Nat) (vg' : Nat → Nat), 41 - x < nn22 → (x ≤ 41) → ∀ (H : Heap) (locs : List Loc), va_P D vwCl [(rr, eMod ad len kp uo tm em pc0), (ad 2, eArr cI 2 fm), (ad 3, eArr cI 8 pq), (ad 4, eArr cI 8 dq), (ad 5, eArr cI 8 kq), (ad 6, eArr cI 2 ai), (ad 13, eArr cI 4 sna), (ad 7, eArr cI 4 wma), (ad 8, eArr cI 32 be), (ad 9, eArr cI 32 va), (ad 10, eArr cI 32 lo), (ad 11, eArr cI 4 spa), (ad 12, eArr cI 4 hea), (ad 20, eArr cI 150 lg'), (ad 21, eArr cI 150 vg')] H → va_D A [(rr, eMod ad len kp uo tm em pc0), (ad 2, eArr cI 2 fm), (ad 3, eArr cI 8 pq), (ad 4, eArr cI 8 dq), (ad 5, eArr cI 8 kq), (ad 6, eArr cI 2 ai), (ad 13, eArr cI 4 sna), (ad 7, eArr cI 4 wma), (ad 8, eArr cI 32 be), (ad 9, eArr cI 32 va), (ad 10, eArr cI 32 lo), (ad 11, eArr cI 4 spa), (ad 12, eArr cI 4 hea), (ad 20, eArr cI 150 lg'), (ad 21, eArr cI 150 vg')] → va_S A s.heap H locs → ∀ ls : Array Slot, lv_has ls 7 [(4, .int (nI x)), (2, .int (nI ((argM (fun y => cntClr cl (fm 0) (ai 0) (sna 0) wd (wma 0) (spa 0) y) (fun _ => 0) x).1))), (3, .int (iI (pmM (fun y => cntClr cl (fm 0) (ai 0) (sna 0) wd (wma 0) (spa 0) y) (fun _ => 0) x))), (0, .ref rr), (1, .int (nI 3))] → W p l e (headSpec wsX7_place ({ frames := 5, cells := 0, slots := 0, locals := 120 })).room s m ([.ref rr, .int (nI 3)] : List Value).toArray below meth c H locs 0 0 (MQ below (va_Qi (fun (r : Int32) ((lg', vg') : (Nat → Nat) × (Nat → Nat)) => r = (nI (cntClr cl (fm 0) (ai 0) (sna 0) wd (wma 0) (spa 0) ((argM (fun y => cntClr cl (fm 0) (ai 0) (sna 0) wd (wma 0) (spa 0) y) (fun _ => 0) 41).1)))) (ctB D cI cC (fun ((lg', vg') : (Nat → Nat) × (Nat → Nat)) => [(rr, eMod ad len kp uo tm em pc0), (ad 2, eArr cI 2 fm), (ad 3, eArr cI 8 pq), (ad 4, eArr cI 8 dq), (ad 5, eArr cI 8 kq), (ad 6, eArr cI 2 ai), (ad 13, eArr cI 4 sna), (ad 7, eArr cI 4 wma), (ad 8, eArr cI 32 be), (ad 9, eArr cI 32 va), (ad 10, eArr cI 32 lo), (ad 11, eArr cI 4 spa), (ad 12, eArr cI 4 hea), (ad 20, eArr cI 150 lg'), (ad 21, eArr cI 150 vg')]) A) A) ([.ref rr, .int (nI 3)] : List Value).toArray s 0 0 A) (F0 m 22 ls []) := by
      intro nn22
      induction nn22 with
      | zero =>
        intro x lg' vg' hm7
        exact absurd hm7 (Nat.not_lt_zero _)
      | succ nn22 ih22 =>
        intro x lg' vg' hm7 hi8 H locs hP hD hS ls hl
        refine lv_iload hx hb dX7_place_22 (lv_at hl 0 rfl) ?_
        refine lv_bipush (v := (nI 40)) hx hb dX7_place_24 (by decide) ?_
        refine x_icmp_gt (tgt := 118) hx hb dX7_place_26 (by decide) (by omega) (by omega) (fun h9 => ?_) (fun h9 => ?_)
        · obtain rfl : x = 41 := by omega
          refine lv_iload_n hx hb dX7_place_118 rfl (lv_at hl 4 rfl) ?_
          refine lv_iconst (v := (nI 2)) hx hb dX7_place_119 (by decide) ?_
          refine x_irem hx hb dX7_place_120 (by omega) (by omega) (by omega) ?_
          refine x_if_ne (tgt := 128) hx hb dX7_place_121 (by decide) (by omega) (fun h10 => ?_) (fun h10 => False.elim (by omega))
          have hp41 : pmM (fun y => cntClr cl (fm 0) (ai 0) (sna 0) wd (wma 0) (spa 0) y) (fun _ => 0) 41 = ((100 * (cntClr cl (fm 0) (ai 0) (sna 0) wd (wma 0) (spa 0) ((argM (fun y => cntClr cl (fm 0) (ai 0) (sna 0) wd (wma 0) (spa 0) y) (fun _ => 0) 41).1)) + 0 : Nat) : Int) := pmM_41 _ _
          have hcb := cntClr_le cl (fm 0) (ai 0) (sna 0) wd (wma 0) (spa 0) (argM (fun y => cntClr cl (fm 0) (ai 0) (sna 0) wd (wma 0) (spa 0) y) (fun _ => 0) 41).1
          rw [hp41, ← nI_iI] at hl
          refine lv_iload_n hx hb dX7_place_128 rfl (lv_at hl 2 rfl) ?_
          refine lv_bipush (v := (nI 100)) hx hb dX7_place_129 (by decide) ?_
          refine x_idiv hx hb dX7_place_131 (by omega) (by omega) (by omega) ?_
          exact x_iret hx hb hr hlocks dX7_place_132 rfl (post := fun (r : Int32) ((lg', vg') : (Nat → Nat) × (Nat → Nat)) => r = (nI (cntClr cl (fm 0) (ai 0) (sna 0) wd (wma 0) (spa 0) ((argM (fun y => cntClr cl (fm 0) (ai 0) (sna 0) wd (wma 0) (spa 0) y) (fun _ => 0) 41).1)))) (w1 := fun ((lg', vg') : (Nat → Nat) × (Nat → Nat)) => [(rr, eMod ad len kp uo tm em pc0), (ad 2, eArr cI 2 fm), (ad 3, eArr cI 8 pq), (ad 4, eArr cI 8 dq), (ad 5, eArr cI 8 kq), (ad 6, eArr cI 2 ai), (ad 13, eArr cI 4 sna), (ad 7, eArr cI 4 wma), (ad 8, eArr cI 32 be), (ad 9, eArr cI 32 va), (ad 10, eArr cI 32 lo), (ad 11, eArr cI 4 spa), (ad 12, eArr cI 4 hea), (ad 20, eArr cI 150 lg'), (ad 21, eArr cI 150 vg')]) (lg', vg') (show nI ((100 * (cntClr cl (fm 0) (ai 0) (sna 0) wd (wma 0) (spa 0) ((argM (fun y => cntClr cl (fm 0) (ai 0) (sna 0) wd (wma 0) (spa 0) y) (fun _ => 0) 41).1)) + 0) / 100) = nI (cntClr cl (fm 0) (ai 0) (sna 0) wd (wma 0) (spa 0) ((argM (fun y => cntClr cl (fm 0) (ai 0) (sna 0) wd (wma 0) (spa 0) y) (fun _ => 0) 41).1)) from congrArg nI (by omega)) hK hP hD hS
        · have hpb := pmM_bd (F := (fun y => cntClr cl (fm 0) (ai 0) (sna 0) wd (wma 0) (spa 0) y)) (G := (fun _ => 0)) (fun q => cntClr_le _ _ _ _ _ _ _ _) (fun _ => Nat.zero_le _) x
          have hcl := cntClr_le cl (fm 0) (ai 0) (sna 0) wd (wma 0) (spa 0) x
          refine lv_iload_n hx hb dX7_place_29 rfl (lv_at hl 4 rfl) ?_
          refine lv_iconst (v := (nI 2)) hx hb dX7_place_30 (by decide) ?_
          refine x_icmp_ge (tgt := 49) hx hb dX7_place_31 (by decide) (by omega) (by omega) (fun h11 => ?_) (fun h11 => False.elim (by omega))
          refine lv_aload_n hx hb dX7_place_49 rfl (lv_at hl 3 rfl) ?_
          refine lv_aload_n hx hb dX7_place_50 rfl (lv_at hl 3 rfl) ?_
          refine va_get (D := D) (ci := 7) (v := .ref (ad 11)) (C := RX7) (T := TX7) (N := 28) hx hb hts inX7 hown hK hP 0 rfl rfl 11 (by decide) fl40 (fun _ h9 => h9) rfl dX7_place_51 ?_
          refine lv_iconst (v := (nI 0)) hx hb dX7_place_54 (by decide) ?_
          refine x_iald (A := A) hx hb hK hP 11 0 rfl rfl dX7_place_55 (by omega) (by omega) ?_
          refine lv_iload hx hb dX7_place_56 (lv_at hl 0 rfl) ?_
          refine k_V (q := (RX7, TX7, 28)) (ci := 7) (As := [.int (nI (spa 0)), .int (nI x)]) (wr := [(ad 11, eArr cI 4 spa), (ad 12, eArr cI 4 hea)]) ⟨hx, hb, hml, hown, hts⟩ (c_X7_clearMany l D cI cC rr ad len kp uo tm em pc0 fm pq dq kq ai sna wma be va lo lg' vg' cl hrc hok (by omega) wd hrd hokd (by omega) (spa 0) x (by omega)) (cwV 2 hts gX7_place_X7_clearMany rfl rfl rfl (by decide +kernel) ⟨Nat.le_of_ble_eq_true rfl, Nat.le_of_ble_eq_true rfl⟩) rfl hl.1 rfl (Nat.le_of_ble_eq_true rfl) dX7_place_58 ⟨Nat.zero_le _, Nat.zero_le _⟩ hN hK hP hD hS hA rfl (q0 := 0) rfl [0, 1, 2, 3, 4, 5, 6, 7, 8, 9, 10, 13, 14] [11, 12] rfl rfl ⟨rfl, rfl, by decide⟩ (fun r12 u H locs w13 hP hD hS => ?_)
          obtain rfl : r12 = (nI (cntClr cl (fm 0) (ai 0) (sna 0) wd (wma 0) (spa 0) x)) := w13
          refine lv_istore (lv' := [(5, .int (nI (cntClr cl (fm 0) (ai 0) (sna 0) wd (wma 0) (spa 0) x))), (4, .int (nI x)), (2, .int (nI ((argM (fun y => cntClr cl (fm 0) (ai 0) (sna 0) wd (wma 0) (spa 0) y) (fun _ => 0) x).1))), (3, .int (iI (pmM (fun y => cntClr cl (fm 0) (ai 0) (sna 0) wd (wma 0) (spa 0) y) (fun _ => 0) x))), (0, .ref rr), (1, .int (nI 3))]) hx hb dX7_place_61 hl (by decide) rfl (fun ls hl => ?_)
          refine lv_bipush (v := (nI 100)) hx hb dX7_place_63 (by decide) ?_
          refine lv_iload hx hb dX7_place_65 (lv_at hl 0 rfl) ?_
          refine x_imul hx hb dX7_place_67 ?_
          refine lv_iload_n hx hb dX7_place_68 rfl (lv_at hl 5 rfl) ?_
          refine lv_iconst (v := (nI 2)) hx hb dX7_place_69 (by decide) ?_
          refine x_icmp_ge (tgt := 82) hx hb dX7_place_70 (by decide) (by omega) (by omega) (fun h14 => ?_) (fun h14 => False.elim (by omega))
          refine lv_iconst (v := (nI 0)) hx hb dX7_place_82 (by decide) ?_
          refine x_iadd hx hb dX7_place_83 ?_
          refine lv_istore (lv' := [(6, .int (nI (100 * (cntClr cl (fm 0) (ai 0) (sna 0) wd (wma 0) (spa 0) x) + 0))), (5, .int (nI (cntClr cl (fm 0) (ai 0) (sna 0) wd (wma 0) (spa 0) x))), (4, .int (nI x)), (2, .int (nI ((argM (fun y => cntClr cl (fm 0) (ai 0) (sna 0) wd (wma 0) (spa 0) y) (fun _ => 0) x).1))), (3, .int (iI (pmM (fun y => cntClr cl (fm 0) (ai 0) (sna 0) wd (wma 0) (spa 0) y) (fun _ => 0) x))), (0, .ref rr), (1, .int (nI 3))]) hx hb dX7_place_84 hl (by decide) rfl (fun ls hl => ?_)
          refine lv_iload hx hb dX7_place_86 (lv_at hl 0 rfl) ?_
          refine lv_iload_n hx hb dX7_place_88 rfl (lv_at hl 4 rfl) ?_
          refine x_top2 (nI_iI _) ?_
          refine z_icmp_le (tgt := 97) hx hb dX7_place_89 (by decide) (by omega) (by omega) (fun h15 => ?_) (fun h15 => ?_)
          · refine lv_iload_n hx hb dX7_place_97 rfl (lv_at hl 3 rfl) ?_
            refine lv_istore_n (lv' := [(2, .int (nI ((argM (fun y => cntClr cl (fm 0) (ai 0) (sna 0) wd (wma 0) (spa 0) y) (fun _ => 0) x).1))), (6, .int (nI (100 * (cntClr cl (fm 0) (ai 0) (sna 0) wd (wma 0) (spa 0) x) + 0))), (5, .int (nI (cntClr cl (fm 0) (ai 0) (sna 0) wd (wma 0) (spa 0) x))), (4, .int (nI x)), (3, .int (iI (pmM (fun y => cntClr cl (fm 0) (ai 0) (sna 0) wd (wma 0) (spa 0) y) (fun _ => 0) x))), (0, .ref rr), (1, .int (nI 3))]) hx hb dX7_place_98 rfl hl (by decide) rfl (fun ls hl => ?_)
            refine lv_iload hx hb dX7_place_99 (lv_at hl 1 rfl) ?_
            refine lv_iload_n hx hb dX7_place_101 rfl (lv_at hl 4 rfl) ?_
            refine x_top2 (nI_iI _) ?_
            refine z_icmp_le (tgt := 110) hx hb dX7_place_102 (by decide) (by omega) (by omega) (fun h16 => ?_) (fun h16 => False.elim (by omega))
            refine lv_iload_n hx hb dX7_place_110 rfl (lv_at hl 4 rfl) ?_
            refine lv_istore_n (lv' := [(3, .int (iI (pmM (fun y => cntClr cl (fm 0) (ai 0) (sna 0) wd (wma 0) (spa 0) y) (fun _ => 0) x))), (2, .int (nI ((argM (fun y => cntClr cl (fm 0) (ai 0) (sna 0) wd (wma 0) (spa 0) y) (fun _ => 0) x).1))), (6, .int (nI (100 * (cntClr cl (fm 0) (ai 0) (sna 0) wd (wma 0) (spa 0) x) + 0))), (5, .int (nI (cntClr cl (fm 0) (ai 0) (sna 0) wd (wma 0) (spa 0) x))), (4, .int (nI x)), (0, .ref rr), (1, .int (nI 3))]) hx hb dX7_place_111 rfl hl (by decide) rfl (fun ls hl => ?_)
            refine lv_iinc (v := (nI (x + 1))) (lv' := [(4, .int (nI (x + 1))), (3, .int (iI (pmM (fun y => cntClr cl (fm 0) (ai 0) (sna 0) wd (wma 0) (spa 0) y) (fun _ => 0) x))), (2, .int (nI ((argM (fun y => cntClr cl (fm 0) (ai 0) (sna 0) wd (wma 0) (spa 0) y) (fun _ => 0) x).1))), (6, .int (nI (100 * (cntClr cl (fm 0) (ai 0) (sna 0) wd (wma 0) (spa 0) x) + 0))), (5, .int (nI (cntClr cl (fm 0) (ai 0) (sna 0) wd (wma 0) (spa 0) x))), (0, .ref rr), (1, .int (nI 3))]) hx hb dX7_place_112 hl (k := 4) rfl (nI_inc _ 1) (by decide) rfl (fun ls hl => ?_)
            refine lv_goto (tgt := 22) hx hb dX7_place_115 (by decide) ?_
            have e := pmM_le (F := (fun y => cntClr cl (fm 0) (ai 0) (sna 0) wd (wma 0) (spa 0) y)) (G := (fun _ => 0)) (x := x) (fun q => cntClr_le _ _ _ _ _ _ _ _) (fun _ => Nat.zero_le _) (show ((100 * (cntClr cl (fm 0) (ai 0) (sna 0) wd (wma 0) (spa 0) x) + 0 : Nat) : Int) ≤ pmM (fun y => cntClr cl (fm 0) (ai 0) (sna 0) wd (wma 0) (spa 0) y) (fun _ => 0) x from by omega)
            have hl : lv_has ls 7 [(4, .int (nI (x + 1))), (2, .int (nI ((argM (fun y => cntClr cl (fm 0) (ai 0) (sna 0) wd (wma 0) (spa 0) y) (fun _ => 0) (x + 1)).1))), (3, .int (iI (pmM (fun y => cntClr cl (fm 0) (ai 0) (sna 0) wd (wma 0) (spa 0) y) (fun _ => 0) (x + 1)))), (0, .ref rr), (1, .int (nI 3))] := by have h := hl; rw [e.1, e.2]; have h := lv_sub h [0, 2, 1, 5, 6] rfl; simp only [nI_iI] at h ⊢; exact h
            exact ih22 (x + 1) ((hearM cl (fm 0) (ai 0) (sna 0) wd (wma 0) (spa 0) x (2 ^ (wma 0) - 1)).1) ((hearM cl (fm 0) (ai 0) (sna 0) wd (wma 0) (spa 0) x (2 ^ (wma 0) - 1)).2) (by omega) (by omega) _ _ (hP.sub [2, 3, 4, 5, 6, 7, 8, 9, 10, 11, 12, 0, 1, 13, 14] rfl) (hD.sub [2, 3, 4, 5, 6, 7, 8, 9, 10, 11, 12, 0, 1, 13, 14] rfl rfl) hS _ (lv_sub hl [0, 1, 2, 3, 4] rfl)
          · refine lv_iload hx hb dX7_place_92 (lv_at hl 2 rfl) ?_
            refine lv_goto (tgt := 98) hx hb dX7_place_94 (by decide) ?_
            refine lv_istore_n (lv' := [(2, .int (nI x)), (6, .int (nI (100 * (cntClr cl (fm 0) (ai 0) (sna 0) wd (wma 0) (spa 0) x) + 0))), (5, .int (nI (cntClr cl (fm 0) (ai 0) (sna 0) wd (wma 0) (spa 0) x))), (4, .int (nI x)), (3, .int (iI (pmM (fun y => cntClr cl (fm 0) (ai 0) (sna 0) wd (wma 0) (spa 0) y) (fun _ => 0) x))), (0, .ref rr), (1, .int (nI 3))]) hx hb dX7_place_98 rfl hl (by decide) rfl (fun ls hl => ?_)
            refine lv_iload hx hb dX7_place_99 (lv_at hl 1 rfl) ?_
            refine lv_iload_n hx hb dX7_place_101 rfl (lv_at hl 4 rfl) ?_
            refine x_top2 (nI_iI _) ?_
            refine z_icmp_le (tgt := 110) hx hb dX7_place_102 (by decide) (by omega) (by omega) (fun h17 => False.elim (by omega)) (fun h17 => ?_)
            refine lv_iload hx hb dX7_place_105 (lv_at hl 1 rfl) ?_
            refine lv_goto (tgt := 111) hx hb dX7_place_107 (by decide) ?_
            refine lv_istore_n (lv' := [(3, .int (nI (100 * (cntClr cl (fm 0) (ai 0) (sna 0) wd (wma 0) (spa 0) x) + 0))), (2, .int (nI x)), (6, .int (nI (100 * (cntClr cl (fm 0) (ai 0) (sna 0) wd (wma 0) (spa 0) x) + 0))), (5, .int (nI (cntClr cl (fm 0) (ai 0) (sna 0) wd (wma 0) (spa 0) x))), (4, .int (nI x)), (0, .ref rr), (1, .int (nI 3))]) hx hb dX7_place_111 rfl hl (by decide) rfl (fun ls hl => ?_)
            refine lv_iinc (v := (nI (x + 1))) (lv' := [(4, .int (nI (x + 1))), (3, .int (nI (100 * (cntClr cl (fm 0) (ai 0) (sna 0) wd (wma 0) (spa 0) x) + 0))), (2, .int (nI x)), (6, .int (nI (100 * (cntClr cl (fm 0) (ai 0) (sna 0) wd (wma 0) (spa 0) x) + 0))), (5, .int (nI (cntClr cl (fm 0) (ai 0) (sna 0) wd (wma 0) (spa 0) x))), (0, .ref rr), (1, .int (nI 3))]) hx hb dX7_place_112 hl (k := 4) rfl (nI_inc _ 1) (by decide) rfl (fun ls hl => ?_)
            refine lv_goto (tgt := 22) hx hb dX7_place_115 (by decide) ?_
            have e := pmM_gt (F := (fun y => cntClr cl (fm 0) (ai 0) (sna 0) wd (wma 0) (spa 0) y)) (G := (fun _ => 0)) (x := x) (fun q => cntClr_le _ _ _ _ _ _ _ _) (fun _ => Nat.zero_le _) (show pmM (fun y => cntClr cl (fm 0) (ai 0) (sna 0) wd (wma 0) (spa 0) y) (fun _ => 0) x < ((100 * (cntClr cl (fm 0) (ai 0) (sna 0) wd (wma 0) (spa 0) x) + 0 : Nat) : Int) from by omega)
            have hl : lv_has ls 7 [(4, .int (nI (x + 1))), (2, .int (nI ((argM (fun y => cntClr cl (fm 0) (ai 0) (sna 0) wd (wma 0) (spa 0) y) (fun _ => 0) (x + 1)).1))), (3, .int (iI (pmM (fun y => cntClr cl (fm 0) (ai 0) (sna 0) wd (wma 0) (spa 0) y) (fun _ => 0) (x + 1)))), (0, .ref rr), (1, .int (nI 3))] := by have h := hl; rw [e.1, e.2]; have h := lv_sub h [0, 2, 1, 5, 6] rfl; simp only [nI_iI] at h ⊢; exact h
            exact ih22 (x + 1) ((hearM cl (fm 0) (ai 0) (sna 0) wd (wma 0) (spa 0) x (2 ^ (wma 0) - 1)).1) ((hearM cl (fm 0) (ai 0) (sna 0) wd (wma 0) (spa 0) x (2 ^ (wma 0) - 1)).2) (by omega) (by omega) _ _ (hP.sub [2, 3, 4, 5, 6, 7, 8, 9, 10, 11, 12, 0, 1, 13, 14] rfl) (hD.sub [2, 3, 4, 5, 6, 7, 8, 9, 10, 11, 12, 0, 1, 13, 14] rfl rfl) hS _ (lv_sub hl [0, 1, 2, 3, 4] rfl)
    exact loop22 _ 0 lg vg (Nat.lt_succ_self _) (by omega) _ _ (hP.sub [0, 1, 2, 3, 4, 5, 6, 7, 8, 9, 10, 11, 12, 13, 14] rfl) (hD.sub [0, 1, 2, 3, 4, 5, 6, 7, 8, 9, 10, 11, 12, 13, 14] rfl rfl) hS _ (lv_sub hl [0, 2, 1, 3, 4] rfl)
  · exact False.elim (by omega)
