/-! Sets of bits: what is not in another set. -/
theorem and_not {a h : Nat} (ha : a < 256) (hh : h < 256) : nI a &&& (nI h ^^^ iI (-1)) = nI (a &&& (255 - h)) := by
  have e1 : nI 255 &&& (nI h ^^^ iI (-1)) = nI (255 - h) := comp_and (n := 8) (by omega) hh
  have e2 : nI a &&& nI 255 = nI a := by
    rw [nI_and]; congr 1
    exact Nat.and_two_pow_sub_one_of_lt_two_pow (n := 8) ha
  rw [← e2, Int32.and_assoc, e1, nI_and]
theorem bit_one {n w : Nat} : n.testBit w = decide (n / 2 ^ w % 2 = 1) := Nat.testBit_eq_decide_div_mod_eq
theorem bitsM_tb (c : Nat → Bool) (n w : Nat) : (bitsM c n).testBit w = (decide (w < n) && c w) := by
  rcases Nat.lt_or_ge w n with h | h
  · rw [bit_one, bitsM_bit h, decide_eq_true h, Bool.true_and]
    cases c w <;> rfl
  · rw [decide_eq_false (by omega), Bool.false_and]
    exact Nat.testBit_lt_two_pow (Nat.lt_of_lt_of_le (bitsM_lt c n) (Nat.pow_le_pow_right (by omega) h))
theorem onS_tb (a w : Nat) : onS a w = a.testBit w := by rw [bit_one]; rfl
theorem neg_tb {h w : Nat} (hh : h < 256) : (255 - h).testBit w = (decide (w < 8) && !h.testBit w) := by
  rw [show 255 - h = 2 ^ 8 - (h + 1) from by omega]
  exact Nat.testBit_two_pow_sub_succ hh w
theorem tb_lt {a n w : Nat} (h : a < 2 ^ n) (hw : a.testBit w = true) : w < n := by
  rcases Nat.lt_or_ge w n with h2 | h2
  · exact h2
  · rw [Nat.testBit_lt_two_pow (Nat.lt_of_lt_of_le h (Nat.pow_le_pow_right (by omega) h2))] at hw
    exact absurd hw (by decide)
/-- none of a is outside of c -/
theorem and_not_0 {c : Nat → Bool} {n a : Nat} (hn : n ≤ 8) (ha : a < 2 ^ n) : a &&& (255 - bitsM c n) = 0 ↔ ∀ w, w < n → a.testBit w = true → c w = true := by
  have hb : bitsM c n < 256 := Nat.lt_of_lt_of_le (bitsM_lt c n) (pow8 hn)
  constructor
  · intro h w hw hw2
    have h1 : (a &&& (255 - bitsM c n)).testBit w = false := by rw [h, Nat.zero_testBit]
    rw [Nat.testBit_and, neg_tb hb, bitsM_tb, hw2, decide_eq_true hw, decide_eq_true (show w < 8 by omega)] at h1
    cases hc : c w with
    | true => rfl
    | false => rw [hc] at h1; exact absurd h1 (by decide)
  · intro h
    apply Nat.eq_of_testBit_eq
    intro w
    rw [Nat.testBit_and, Nat.zero_testBit, neg_tb hb, bitsM_tb]
    cases hw : a.testBit w with
    | false => rfl
    | true =>
      have hl := tb_lt ha hw
      rw [h w hl hw, decide_eq_true hl, Bool.true_and]
      simp
theorem sub_bits {c : Nat → Bool} {n a : Nat} (ha : a < 2 ^ n) : bitsM (fun w => onS a w && c w) n = a ↔ ∀ w, w < n → a.testBit w = true → c w = true := by
  constructor
  · intro h w hw hw2
    have h1 : (bitsM (fun w => onS a w && c w) n).testBit w = true := by rw [h]; exact hw2
    rw [bitsM_tb, onS_tb, hw2, decide_eq_true hw, Bool.true_and, Bool.true_and] at h1
    exact h1
  · intro h
    apply Nat.eq_of_testBit_eq
    intro w
    rw [bitsM_tb, onS_tb]
    cases hw : a.testBit w with
    | false => rw [Bool.false_and, Bool.and_false]
    | true =>
      have hl := tb_lt ha hw
      rw [h w hl hw, decide_eq_true hl]; rfl
/-- what the reference tests of a set that is left out -/
theorem lo_iff {cl : Nat → Nat} {nc air sn : Nat} {wd : Nat → Nat} {nw x y a : Nat} (hn : nw ≤ 8) (ha : a < 2 ^ nw) : a &&& (255 - hitS (hearM cl nc air sn wd nw x y a) wd 0 (absd x y) (air * absd x y) nw) = 0 ↔ clrM cl nc air sn wd nw x y a = a := by
  unfold hitS clrM
  rw [and_not_0 hn ha, sub_bits ha]
def okLO (cl : Nat → Nat) (nc air sn : Nat) (wd : Nat → Nat) (nw x y : Nat) : Nat → Bool := fun s => decide (clrM cl nc air sn wd nw x y (2 ^ nw - 1 - s) = 2 ^ nw - 1 - s)
def rlM (ok : Nat → Bool) : Nat → Int
  | 0 => -4
  | s + 1 => if ok s = true ∧ (rlM ok s < 0 ∨ popM s < popM (rlM ok s).toNat) then (s : Int) else rlM ok s
theorem rlM_t {ok : Nat → Bool} {s : Nat} (h : ok s = true) (h2 : rlM ok s < 0 ∨ popM s < popM (rlM ok s).toNat) : rlM ok (s + 1) = (s : Int) := if_pos ⟨h, h2⟩
theorem rlM_f {ok : Nat → Bool} {s : Nat} (h : ok s = false ∨ (0 ≤ rlM ok s ∧ popM (rlM ok s).toNat ≤ popM s)) : rlM ok (s + 1) = rlM ok s := if_neg (by
  intro hh
  rcases h with h | h
  · rw [h] at hh; exact absurd hh.1 (by decide)
  · omega)
theorem rlM_bd (ok : Nat → Bool) (s : Nat) : -4 ≤ rlM ok s ∧ rlM ok s < (s : Int) + 1 ∧ (rlM ok s < 0 → rlM ok s = -4) := by
  induction s with
  | zero => exact ⟨by show (-4 : Int) ≤ -4; omega, by show (-4 : Int) < (0 : Int) + 1; omega, fun _ => rfl⟩
  | succ s ih =>
    by_cases h : ok s = true ∧ (rlM ok s < 0 ∨ popM s < popM (rlM ok s).toNat)
    · rw [rlM_t h.1 h.2]; omega
    · rw [show rlM ok (s + 1) = rlM ok s from if_neg h]; omega
set_option maxRecDepth 100000 in
theorem pop_max : ∀ n, n < 9 → ∀ k, k < 2 ^ n → popM k ≤ n ∧ (popM k = n ↔ k = 2 ^ n - 1) := by decide +kernel
theorem rl_lo {ok : Nat → Bool} {n : Nat} (hn : n ≤ 8) (hall : ok (2 ^ n - 1) = true) : rlM ok (2 ^ n) = ((loM ok (2 ^ n - 1) (2 ^ n - 1) : Nat) : Int) := by
  have hp : 1 ≤ 2 ^ n := Nat.one_le_two_pow
  have hq := (pop_max n (by omega) (2 ^ n - 1) (by omega)).2.mpr rfl
  have key : ∀ s, s ≤ 2 ^ n - 1 → (rlM ok s = -4 ∧ loM ok (2 ^ n - 1) s = 2 ^ n - 1) ∨ (rlM ok s = ((loM ok (2 ^ n - 1) s : Nat) : Int) ∧ loM ok (2 ^ n - 1) s < 2 ^ n - 1) := by
    intro s
    induction s with
    | zero => intro _; exact Or.inl ⟨rfl, rfl⟩
    | succ s ih =>
      intro hs
      have h1 := pop_max n (by omega) s (by omega)
      have h2 : popM s < n := by
        rcases Nat.lt_or_ge (popM s) n with h3 | h3
        · exact h3
        · have := h1.2.mp (by omega); omega
      cases hok : ok s with
      | false => rw [rlM_f (Or.inl hok), loM_f (Or.inr hok)]; exact ih (by omega)
      | true =>
        rcases ih (by omega) with ⟨ha, hb⟩ | ⟨ha, hb⟩
        · rw [rlM_t hok (Or.inl (by omega)), loM_t (by rw [hb, hq]; exact h2) hok]
          exact Or.inr ⟨rfl, by omega⟩
        · by_cases h4 : popM s < popM (loM ok (2 ^ n - 1) s)
          · rw [rlM_t hok (Or.inr (by rw [ha, Int.toNat_natCast]; exact h4)), loM_t h4 hok]
            exact Or.inr ⟨rfl, by omega⟩
          · rw [rlM_f (Or.inr ⟨by omega, by rw [ha, Int.toNat_natCast]; omega⟩), loM_f (Or.inl (by omega))]
            exact Or.inr ⟨ha, hb⟩
  have e : 2 ^ n = (2 ^ n - 1) + 1 := by omega
  have k := key (2 ^ n - 1) (Nat.le_refl _)
  have e2 : rlM ok (2 ^ n) = rlM ok ((2 ^ n - 1) + 1) := by rw [← e]
  rw [e2]
  rcases k with ⟨ha, hb⟩ | ⟨ha, hb⟩
  · rw [rlM_t hall (Or.inl (by omega)), hb]
  · rw [rlM_f (Or.inr ⟨by omega, by rw [ha, Int.toNat_natCast, hq]; exact (pop_max n (by omega) _ (by omega)).1⟩), ha]
theorem okLO_all {cl : Nat → Nat} {nc air sn : Nat} {wd : Nat → Nat} {nw x y : Nat} : okLO cl nc air sn wd nw x y (2 ^ nw - 1) = true := by
  unfold okLO
  rw [Nat.sub_self]
  refine decide_eq_true ?_
  unfold clrM
  rw [sub_bits (Nat.two_pow_pos nw)]
  intro w _ h
  rw [Nat.zero_testBit] at h
  exact absurd h (by decide)
/-- a heckler spoils it -/
def spoB (H : Snd) (clear : Nat) (wd : Nat → Nat) (nw y z : Nat) (L2 : List (Nat × Nat)) (v lv t : Nat) : Bool := decide (¬ clear &&& (255 - hitS (carryM H t v lv L2) wd 0 y z nw) = 0)

set_option maxRecDepth 100000 in
set_option maxHeartbeats 4000000 in
theorem c_X7_leftOut (l : Launch) (D : va_G) (cI cC : ClassId) (rr : Nat) (ad : Nat → Nat) (len : Nat) (kp : Nat) (uo : Nat) (tm : Nat) (em : Nat) (pc0 : Nat) (fm : Nat → Nat) (pq : Nat → Nat) (dq : Nat → Nat) (kq : Nat → Nat) (ai : Nat → Nat) (sna : Nat → Nat) (wma : Nat → Nat) (be : Nat → Nat) (va : Nat → Nat) (lo : Nat → Nat) (spa : Nat → Nat) (hea : Nat → Nat) (lg : Nat → Nat) (vg : Nat → Nat) (cl : Nat → Nat) (hrc : relC pq dq kq cl (fm 0)) (hok : okC cl (fm 0)) (hfm : fm 0 ≤ 4 ∧ ai 0 ≤ 99 ∧ sna 0 < 2147483648) (wd : Nat → Nat) (hrd : relD be va lo wd (wma 0)) (hokd : okD wd (wma 0)) (hnw : wma 0 ≤ 8) (hsp : spa 0 ≤ 40 ∧ hea 0 ≤ 40) : mtI l D cI cC yX7_leftOut wsX7_leftOut ({ frames := 4, cells := 0, slots := 0, locals := 98 }) [.ref rr] [(rr, eMod ad len kp uo tm em pc0), (ad 2, eArr cI 2 fm), (ad 3, eArr cI 8 pq), (ad 4, eArr cI 8 dq), (ad 5, eArr cI 8 kq), (ad 6, eArr cI 2 ai), (ad 13, eArr cI 4 sna), (ad 7, eArr cI 4 wma), (ad 8, eArr cI 32 be), (ad 9, eArr cI 32 va), (ad 10, eArr cI 32 lo), (ad 11, eArr cI 4 spa), (ad 12, eArr cI 4 hea), (ad 20, eArr cI 150 lg), (ad 21, eArr cI 150 vg)] (fun (r : Int32) ((lg', vg') : (Nat → Nat) × (Nat → Nat)) => r = (nI (loM (okLO cl (fm 0) (ai 0) (sna 0) wd (wma 0) (spa 0) (hea 0)) (2 ^ (wma 0) - 1) (2 ^ (wma 0) - 1)))) (fun ((lg', vg') : (Nat → Nat) × (Nat → Nat)) => [(rr, eMod ad len kp uo tm em pc0), (ad 2, eArr cI 2 fm), (ad 3, eArr cI 8 pq), (ad 4, eArr cI 8 dq), (ad 5, eArr cI 8 kq), (ad 6, eArr cI 2 ai), (ad 13, eArr cI 4 sna), (ad 7, eArr cI 4 wma), (ad 8, eArr cI 32 be), (ad 9, eArr cI 32 va), (ad 10, eArr cI 32 lo), (ad 11, eArr cI 4 spa), (ad 12, eArr cI 4 hea), (ad 20, eArr cI 150 lg'), (ad 21, eArr cI 150 vg')]) := by
  refine mtI_of (cc := cX7_leftOut) (maxL := 4) (ret := (some .int)) (by decide) rfl rfl ?_
  intro p e s m below meth c A hx hb hml hr hts hown hlocks hN hA hK hP hD hS ls hl
  have hown : s.vm.findClass RX7 = some m.cls := hown
  have hl : lv_has ls 4 [(0, .ref rr)] := hl
  obtain ⟨H, hHe⟩ : ∃ H, H = s.heap := ⟨_, rfl⟩
  rw [← hHe] at hP ⊢
  have hS : va_S A s.heap H [] := by rw [hHe]; exact va_S.rf
  have fl40 := hts (.fieldLink RX7 40 "EchoPaysRentModel" "speaker" "[I") (by decide +kernel)
  have inX7 : ∀ w ∈ wsX70, w ∈ wsX7_leftOut := by decide +kernel
  have fl43 := hts (.fieldLink RX7 43 "EchoPaysRentModel" "hearer" "[I") (by decide +kernel)
  have hnn : fm 0 ≤ 4 ∧ wma 0 ≤ 8 := ⟨hfm.1, hnw⟩
  have hp8 := pow8 hnw
  have f1 : 2 ^ wma 0 ≤ 256 := pow8 hnw
  have f2 : 1 ≤ 2 ^ wma 0 := Nat.one_le_two_pow
  refine lv_bipush (v := (iI (-4))) hx hb dX7_leftOut_0 (by decide) ?_
  refine lv_istore_n (lv' := [(1, .int (iI (-4))), (0, .ref rr)]) hx hb dX7_leftOut_2 rfl hl (by decide) rfl (fun ls hl => ?_)
  refine lv_iconst (v := (nI 0)) hx hb dX7_leftOut_3 (by decide) ?_
  refine lv_istore_n (lv' := [(2, .int (nI 0)), (1, .int (iI (-4))), (0, .ref rr)]) hx hb dX7_leftOut_4 rfl hl (by decide) rfl (fun ls hl => ?_)
  have loop5 : ∀ (nn5 : Nat) (q : Nat) (lg' : Nat → Nat) (vg' : Nat → Nat), 2 ^ (wma 0) - q < nn5 → (q ≤ 2 ^ (wma 0)) → ∀ (H : Heap) (locs : List Loc), va_P D vwCl [(rr, eMod ad len kp uo tm em pc0), (ad 2, eArr cI 2 fm), (ad 3, eArr cI 8 pq), (ad 4, eArr cI 8 dq), (ad 5, eArr cI 8 kq), (ad 6, eArr cI 2 ai), (ad 13, eArr cI 4 sna), (ad 7, eArr cI 4 wma), (ad 8, eArr cI 32 be), (ad 9, eArr cI 32 va), (ad 10, eArr cI 32 lo), (ad 11, eArr cI 4 spa), (ad 12, eArr cI 4 hea), (ad 20, eArr cI 150 lg'), (ad 21, eArr cI 150 vg')] H → va_D A [(rr, eMod ad len kp uo tm em pc0), (ad 2, eArr cI 2 fm), (ad 3, eArr cI 8 pq), (ad 4, eArr cI 8 dq), (ad 5, eArr cI 8 kq), (ad 6, eArr cI 2 ai), (ad 13, eArr cI 4 sna), (ad 7, eArr cI 4 wma), (ad 8, eArr cI 32 be), (ad 9, eArr cI 32 va), (ad 10, eArr cI 32 lo), (ad 11, eArr cI 4 spa), (ad 12, eArr cI 4 hea), (ad 20, eArr cI 150 lg'), (ad 21, eArr cI 150 vg')] → va_S A s.heap H locs → ∀ ls : Array Slot, lv_has ls 4 [(2, .int (nI q)), (1, .int (iI (rlM (okLO cl (fm 0) (ai 0) (sna 0) wd (wma 0) (spa 0) (hea 0)) q))), (0, .ref rr)] → W p l e (headSpec wsX7_leftOut ({ frames := 4, cells := 0, slots := 0, locals := 98 })).room s m ([.ref rr] : List Value).toArray below meth c H locs 0 0 (MQ below (va_Qi (fun (r : Int32) ((lg', vg') : (Nat → Nat) × (Nat → Nat)) => r = (nI (loM (okLO cl (fm 0) (ai 0) (sna 0) wd (wma 0) (spa 0) (hea 0)) (2 ^ (wma 0) - 1) (2 ^ (wma 0) - 1)))) (ctB D cI cC (fun ((lg', vg') : (Nat → Nat) × (Nat → Nat)) => [(rr, eMod ad len kp uo tm em pc0), (ad 2, eArr cI 2 fm), (ad 3, eArr cI 8 pq), (ad 4, eArr cI 8 dq), (ad 5, eArr cI 8 kq), (ad 6, eArr cI 2 ai), (ad 13, eArr cI 4 sna), (ad 7, eArr cI 4 wma), (ad 8, eArr cI 32 be), (ad 9, eArr cI 32 va), (ad 10, eArr cI 32 lo), (ad 11, eArr cI 4 spa), (ad 12, eArr cI 4 hea), (ad 20, eArr cI 150 lg'), (ad 21, eArr cI 150 vg')]) A) A) ([.ref rr] : List Value).toArray s 0 0 A) (F0 m 5 ls []) := by
    intro nn5
    induction nn5 with
    | zero =>
      intro q lg' vg' hm3
      exact absurd hm3 (Nat.not_lt_zero _)
    | succ nn5 ih5 =>
      intro q lg' vg' hm3 hi4 H locs hP hD hS ls hl
      refine lv_iload_n hx hb dX7_leftOut_5 rfl (lv_at hl 0 rfl) ?_
      refine lv_aload_n hx hb dX7_leftOut_6 rfl (lv_at hl 2 rfl) ?_
      refine k_V (q := (RX7, TX7, 28)) (ci := 7) (As := []) (wr := [(ad 2, eArr cI 2 fm), (ad 3, eArr cI 8 pq), (ad 4, eArr cI 8 dq), (ad 5, eArr cI 8 kq), (ad 6, eArr cI 2 ai), (ad 13, eArr cI 4 sna), (ad 8, eArr cI 32 be), (ad 9, eArr cI 32 va), (ad 10, eArr cI 32 lo), (ad 11, eArr cI 4 spa), (ad 12, eArr cI 4 hea), (ad 20, eArr cI 150 lg'), (ad 21, eArr cI 150 vg')]) ⟨hx, hb, hml, hown, hts⟩ (c_X7_allWords l D cI cC rr ad len kp uo tm em pc0 wma (by omega)) (cwV 0 hts gX7_leftOut_X7_allWords rfl rfl rfl (by decide +kernel) ⟨Nat.le_of_ble_eq_true rfl, Nat.le_of_ble_eq_true rfl⟩) rfl hl.1 rfl (Nat.le_of_ble_eq_true rfl) dX7_leftOut_7 ⟨Nat.zero_le _, Nat.zero_le _⟩ hN hK hP hD hS hA rfl (q0 := 0) rfl [0, 7] [1, 2, 3, 4, 5, 6, 8, 9, 10, 11, 12, 13, 14] rfl rfl ⟨rfl, rfl, by decide⟩ (fun r5 u H locs w6 hP hD hS => ?_)
      obtain rfl : r5 = (nI (2 ^ (wma 0) - 1)) := w6
      refine x_icmp_gt (tgt := 97) hx hb dX7_leftOut_10 (by decide) (by omega) (by omega) (fun h7 => ?_) (fun h7 => ?_)
      · obtain rfl : q = 2 ^ (wma 0) := by omega
        refine lv_iload_n hx hb dX7_leftOut_97 rfl (lv_at hl 1 rfl) ?_
        exact x_iret hx hb hr hlocks dX7_leftOut_98 rfl (post := fun (r : Int32) ((lg', vg') : (Nat → Nat) × (Nat → Nat)) => r = (nI (loM (okLO cl (fm 0) (ai 0) (sna 0) wd (wma 0) (spa 0) (hea 0)) (2 ^ (wma 0) - 1) (2 ^ (wma 0) - 1)))) (w1 := fun ((lg', vg') : (Nat → Nat) × (Nat → Nat)) => [(rr, eMod ad len kp uo tm em pc0), (ad 2, eArr cI 2 fm), (ad 3, eArr cI 8 pq), (ad 4, eArr cI 8 dq), (ad 5, eArr cI 8 kq), (ad 6, eArr cI 2 ai), (ad 13, eArr cI 4 sna), (ad 7, eArr cI 4 wma), (ad 8, eArr cI 32 be), (ad 9, eArr cI 32 va), (ad 10, eArr cI 32 lo), (ad 11, eArr cI 4 spa), (ad 12, eArr cI 4 hea), (ad 20, eArr cI 150 lg'), (ad 21, eArr cI 150 vg')]) (lg', vg') ((congrArg iI (rl_lo hnw okLO_all)).trans (nI_iI _).symm) hK (hP.sub [13, 0, 1, 2, 3, 4, 5, 14, 6, 7, 8, 9, 10, 11, 12] rfl) (hD.sub [13, 0, 1, 2, 3, 4, 5, 14, 6, 7, 8, 9, 10, 11, 12] rfl rfl) hS
      · have hrlb0 := rlM_bd (okLO cl (fm 0) (ai 0) (sna 0) wd (wma 0) (spa 0) (hea 0)) q
        refine lv_aload_n hx hb dX7_leftOut_13 rfl (lv_at hl 2 rfl) ?_
        refine lv_aload_n hx hb dX7_leftOut_14 rfl (lv_at hl 2 rfl) ?_
        refine va_get (D := D) (ci := 7) (v := .ref (ad 11)) (C := RX7) (T := TX7) (N := 28) hx hb hts inX7 hown hK hP 13 rfl rfl 11 (by decide) fl40 (fun _ h9 => h9) rfl dX7_leftOut_15 ?_
        refine lv_iconst (v := (nI 0)) hx hb dX7_leftOut_18 (by decide) ?_
        refine x_iald (A := A) hx hb hK hP 9 0 rfl rfl dX7_leftOut_19 (by omega) (by omega) ?_
        refine lv_aload_n hx hb dX7_leftOut_20 rfl (lv_at hl 2 rfl) ?_
        refine va_get (D := D) (ci := 7) (v := .ref (ad 12)) (C := RX7) (T := TX7) (N := 28) hx hb hts inX7 hown hK hP 13 rfl rfl 12 (by decide) fl43 (fun _ h9 => h9) rfl dX7_leftOut_21 ?_
        refine lv_iconst (v := (nI 0)) hx hb dX7_leftOut_24 (by decide) ?_
        refine x_iald (A := A) hx hb hK hP 10 0 rfl rfl dX7_leftOut_25 (by omega) (by omega) ?_
        refine lv_iload_n hx hb dX7_leftOut_26 rfl (lv_at hl 0 rfl) ?_
        refine k_Vv (q := (RX7, TX7, 28)) (ci := 7) (As := [.int (nI (spa 0)), .int (nI (hea 0)), .int (nI q)]) (wr := [(ad 11, eArr cI 4 spa), (ad 12, eArr cI 4 hea)]) ⟨hx, hb, hml, hown, hts⟩ (c_X7_sayAll l D cI cC rr ad len kp uo tm em pc0 fm pq dq kq ai sna wma be va lo cl hrc hok (by omega) wd hrd hokd (by omega) (spa 0) (hea 0) (by omega) q (by omega) lg' vg') (cwV 3 hts gX7_leftOut_X7_sayAll rfl rfl rfl (by decide +kernel) ⟨Nat.le_of_ble_eq_true rfl, Nat.le_of_ble_eq_true rfl⟩) rfl hl.1 rfl (Nat.le_of_ble_eq_true rfl) dX7_leftOut_27 ⟨Nat.zero_le _, Nat.zero_le _⟩ hN hK hP hD hS hA rfl (q0 := 13) rfl [13, 0, 1, 2, 3, 4, 5, 14, 6, 7, 8, 11, 12] [9, 10] rfl rfl ⟨rfl, rfl, by decide⟩ (fun u H locs w9 hP hD hS => ?_)
        refine lv_aload_n hx hb dX7_leftOut_30 rfl (lv_at hl 2 rfl) ?_
        refine k_V (q := (RX7, TX7, 28)) (ci := 7) (As := []) (wr := [(ad 11, eArr cI 4 spa), (ad 12, eArr cI 4 hea), (ad 2, eArr cI 2 fm), (ad 3, eArr cI 8 pq), (ad 4, eArr cI 8 dq), (ad 5, eArr cI 8 kq), (ad 6, eArr cI 2 ai), (ad 13, eArr cI 4 sna), (ad 8, eArr cI 32 be), (ad 9, eArr cI 32 va), (ad 10, eArr cI 32 lo), (ad 20, eArr cI 150 ((hearM cl (fm 0) (ai 0) (sna 0) wd (wma 0) (spa 0) (hea 0) (2 ^ (wma 0) - 1 - q)).1)), (ad 21, eArr cI 150 ((hearM cl (fm 0) (ai 0) (sna 0) wd (wma 0) (spa 0) (hea 0) (2 ^ (wma 0) - 1 - q)).2))]) ⟨hx, hb, hml, hown, hts⟩ (c_X7_allWords l D cI cC rr ad len kp uo tm em pc0 wma (by omega)) (cwV 0 hts gX7_leftOut_X7_allWords rfl rfl rfl (by decide +kernel) ⟨Nat.le_of_ble_eq_true rfl, Nat.le_of_ble_eq_true rfl⟩) rfl hl.1 rfl (Nat.le_of_ble_eq_true rfl) dX7_leftOut_31 ⟨Nat.zero_le _, Nat.zero_le _⟩ hN hK hP hD hS hA rfl (q0 := 2) rfl [2, 9] [0, 1, 3, 4, 5, 6, 7, 8, 10, 11, 12, 13, 14] rfl rfl ⟨rfl, rfl, by decide⟩ (fun r10 u H locs w11 hP hD hS => ?_)
        obtain rfl : r10 = (nI (2 ^ (wma 0) - 1)) := w11
        refine lv_iload_n hx hb dX7_leftOut_34 rfl (lv_at hl 0 rfl) ?_
        refine lv_iconst (v := (iI (-1))) hx hb dX7_leftOut_35 (by decide) ?_
        refine lv_ixor hx hb dX7_leftOut_36 ?_
        refine lv_iand hx hb dX7_leftOut_37 ?_
        refine x_top (comp_and hnn.2 (by omega)) ?_
        refine lv_aload_n hx hb dX7_leftOut_38 rfl (lv_at hl 2 rfl) ?_
        refine lv_aload_n hx hb dX7_leftOut_39 rfl (lv_at hl 2 rfl) ?_
        refine va_get (D := D) (ci := 7) (v := .ref (ad 11)) (C := RX7) (T := TX7) (N := 28) hx hb hts inX7 hown hK hP 13 rfl rfl 11 (by decide) fl40 (fun _ h9 => h9) rfl dX7_leftOut_40 ?_
        refine lv_iconst (v := (nI 0)) hx hb dX7_leftOut_43 (by decide) ?_
        refine x_iald (A := A) hx hb hK hP 0 0 rfl rfl dX7_leftOut_44 (by omega) (by omega) ?_
        refine lv_aload_n hx hb dX7_leftOut_45 rfl (lv_at hl 2 rfl) ?_
        refine va_get (D := D) (ci := 7) (v := .ref (ad 12)) (C := RX7) (T := TX7) (N := 28) hx hb hts inX7 hown hK hP 13 rfl rfl 12 (by decide) fl43 (fun _ h9 => h9) rfl dX7_leftOut_46 ?_
        refine lv_iconst (v := (nI 0)) hx hb dX7_leftOut_49 (by decide) ?_
        refine x_iald (A := A) hx hb hK hP 1 0 rfl rfl dX7_leftOut_50 (by omega) (by omega) ?_
        refine k_V (q := (RX7, TX7, 28)) (ci := 7) (As := [.int (nI (spa 0)), .int (nI (hea 0))]) (wr := [(ad 11, eArr cI 4 spa), (ad 12, eArr cI 4 hea), (ad 2, eArr cI 2 fm), (ad 3, eArr cI 8 pq), (ad 4, eArr cI 8 dq), (ad 5, eArr cI 8 kq), (ad 13, eArr cI 4 sna), (ad 20, eArr cI 150 ((hearM cl (fm 0) (ai 0) (sna 0) wd (wma 0) (spa 0) (hea 0) (2 ^ (wma 0) - 1 - q)).1))]) ⟨hx, hb, hml, hown, hts⟩ (c_X7_clearOf l D cI cC rr ad len kp uo tm em pc0 ai wma be va lo (hearM cl (fm 0) (ai 0) (sna 0) wd (wma 0) (spa 0) (hea 0) (2 ^ (wma 0) - 1 - q)) wd hrd hokd (by omega) hfm.2.1 (spa 0) (hea 0) (by omega) (okS_play okS_quiet hokd _ (Nat.le_refl _))) (cwV 2 hts gX7_leftOut_X7_clearOf rfl rfl rfl (by decide +kernel) ⟨Nat.le_of_ble_eq_true rfl, Nat.le_of_ble_eq_true rfl⟩) rfl hl.1 rfl (Nat.le_of_ble_eq_true rfl) dX7_leftOut_51 ⟨Nat.zero_le _, Nat.zero_le _⟩ hN hK hP hD hS hA rfl (q0 := 13) rfl [13, 6, 14, 8, 9, 10, 12] [0, 1, 2, 3, 4, 5, 7, 11] rfl rfl ⟨rfl, rfl, by decide⟩ (fun r12 u H locs w13 hP hD hS => ?_)
        obtain rfl : r12 = (nI (hitS (hearM cl (fm 0) (ai 0) (sna 0) wd (wma 0) (spa 0) (hea 0) (2 ^ (wma 0) - 1 - q)) wd 0 (absd (spa 0) (hea 0)) (ai 0 * absd (spa 0) (hea 0)) (wma 0))) := w13
        have hh8 : hitS (hearM cl (fm 0) (ai 0) (sna 0) wd (wma 0) (spa 0) (hea 0) (2 ^ (wma 0) - 1 - q)) wd 0 (absd (spa 0) (hea 0)) (ai 0 * absd (spa 0) (hea 0)) (wma 0) < 256 := Nat.lt_of_lt_of_le (hitS_lt _ _ _ _ _ _) hp8
        refine lv_iconst (v := (iI (-1))) hx hb dX7_leftOut_54 (by decide) ?_
        refine lv_ixor hx hb dX7_leftOut_55 ?_
        refine lv_iand hx hb dX7_leftOut_56 ?_
        refine x_top (and_not (show 2 ^ (wma 0) - 1 - q < 256 by omega) hh8) ?_
        have hab : ((2 ^ (wma 0) - 1 - q) &&& (255 - (hitS (hearM cl (fm 0) (ai 0) (sna 0) wd (wma 0) (spa 0) (hea 0) (2 ^ (wma 0) - 1 - q)) wd 0 (absd (spa 0) (hea 0)) (ai 0 * absd (spa 0) (hea 0)) (wma 0)))) ≤ 255 - (hitS (hearM cl (fm 0) (ai 0) (sna 0) wd (wma 0) (spa 0) (hea 0) (2 ^ (wma 0) - 1 - q)) wd 0 (absd (spa 0) (hea 0)) (ai 0 * absd (spa 0) (hea 0)) (wma 0)) := Nat.and_le_right
        have hlo := lo_iff (cl := cl) (nc := fm 0) (air := ai 0) (sn := sna 0) (wd := wd) (x := spa 0) (y := hea 0) hnw (show 2 ^ (wma 0) - 1 - q < 2 ^ (wma 0) by omega)
        refine x_if_ne (tgt := 64) hx hb dX7_leftOut_57 (by decide) (by omega) (fun h14 => ?_) (fun h14 => ?_)
        · have hokv : (okLO cl (fm 0) (ai 0) (sna 0) wd (wma 0) (spa 0) (hea 0)) q = false := by unfold okLO; exact decide_eq_false (fun hh => absurd (hlo.mpr hh) (by assumption))
          refine lv_iconst (v := (nI 0)) hx hb dX7_leftOut_64 (by decide) ?_
          refine lv_istore_n (lv' := [(3, .int (nI 0)), (2, .int (nI q)), (1, .int (iI (rlM (okLO cl (fm 0) (ai 0) (sna 0) wd (wma 0) (spa 0) (hea 0)) q))), (0, .ref rr)]) hx hb dX7_leftOut_65 rfl hl (by decide) rfl (fun ls hl => ?_)
          refine lv_iload_n hx hb dX7_leftOut_66 rfl (lv_at hl 0 rfl) ?_
          refine x_if_eq (tgt := 89) hx hb dX7_leftOut_67 (by decide) (by omega) (fun h15 => ?_) (fun h15 => False.elim (by omega))
          refine lv_iload_n hx hb dX7_leftOut_89 rfl (lv_at hl 2 rfl) ?_
          refine lv_istore_n (lv' := [(1, .int (iI (rlM (okLO cl (fm 0) (ai 0) (sna 0) wd (wma 0) (spa 0) (hea 0)) q))), (3, .int (nI 0)), (2, .int (nI q)), (0, .ref rr)]) hx hb dX7_leftOut_90 rfl hl (by decide) rfl (fun ls hl => ?_)
          refine lv_iinc (v := (nI (q + 1))) (lv' := [(2, .int (nI (q + 1))), (1, .int (iI (rlM (okLO cl (fm 0) (ai 0) (sna 0) wd (wma 0) (spa 0) (hea 0)) q))), (3, .int (nI 0)), (0, .ref rr)]) hx hb dX7_leftOut_91 hl (k := 2) rfl (nI_inc _ 1) (by decide) rfl (fun ls hl => ?_)
          refine lv_goto (tgt := 5) hx hb dX7_leftOut_94 (by decide) ?_
          have hl : lv_has ls 4 [(2, .int (nI (q + 1))), (1, .int (iI (rlM (okLO cl (fm 0) (ai 0) (sna 0) wd (wma 0) (spa 0) (hea 0)) (q + 1)))), (0, .ref rr)] := by have h := hl; have e := rlM_f (ok := (okLO cl (fm 0) (ai 0) (sna 0) wd (wma 0) (spa 0) (hea 0))) (s := q) (Or.inl hokv); rw [e]; have h := lv_sub h [0, 1, 3] rfl; simp only [nI_iI] at h ⊢; exact h
          exact ih5 (q + 1) ((hearM cl (fm 0) (ai 0) (sna 0) wd (wma 0) (spa 0) (hea 0) (2 ^ (wma 0) - 1 - q)).1) ((hearM cl (fm 0) (ai 0) (sna 0) wd (wma 0) (spa 0) (hea 0) (2 ^ (wma 0) - 1 - q)).2) (by omega) (by omega) _ _ (hP.sub [8, 2, 3, 4, 5, 9, 6, 10, 11, 12, 13, 0, 1, 7, 14] rfl) (hD.sub [8, 2, 3, 4, 5, 9, 6, 10, 11, 12, 13, 0, 1, 7, 14] rfl rfl) hS _ (lv_sub hl [0, 1, 2] rfl)
        · have hokv : (okLO cl (fm 0) (ai 0) (sna 0) wd (wma 0) (spa 0) (hea 0)) q = true := by unfold okLO; exact decide_eq_true (hlo.mp (by assumption))
          refine lv_iconst (v := (nI 1)) hx hb dX7_leftOut_60 (by decide) ?_
          refine lv_goto (tgt := 65) hx hb dX7_leftOut_61 (by decide) ?_
          refine lv_istore_n (lv' := [(3, .int (nI 1)), (2, .int (nI q)), (1, .int (iI (rlM (okLO cl (fm 0) (ai 0) (sna 0) wd (wma 0) (spa 0) (hea 0)) q))), (0, .ref rr)]) hx hb dX7_leftOut_65 rfl hl (by decide) rfl (fun ls hl => ?_)
          refine lv_iload_n hx hb dX7_leftOut_66 rfl (lv_at hl 0 rfl) ?_
          refine x_if_eq (tgt := 89) hx hb dX7_leftOut_67 (by decide) (by omega) (fun h16 => False.elim (by omega)) (fun h16 => ?_)
          refine lv_iload_n hx hb dX7_leftOut_70 rfl (lv_at hl 2 rfl) ?_
          refine z_if_lt (tgt := 85) hx hb dX7_leftOut_71 (by decide) (by omega) (fun h17 => ?_) (fun h17 => ?_)
          · refine lv_iload_n hx hb dX7_leftOut_85 rfl (lv_at hl 1 rfl) ?_
            refine lv_goto (tgt := 90) hx hb dX7_leftOut_86 (by decide) ?_
            refine lv_istore_n (lv' := [(1, .int (nI q)), (3, .int (nI 1)), (2, .int (nI q)), (0, .ref rr)]) hx hb dX7_leftOut_90 rfl hl (by decide) rfl (fun ls hl => ?_)
            refine lv_iinc (v := (nI (q + 1))) (lv' := [(2, .int (nI (q + 1))), (1, .int (nI q)), (3, .int (nI 1)), (0, .ref rr)]) hx hb dX7_leftOut_91 hl (k := 2) rfl (nI_inc _ 1) (by decide) rfl (fun ls hl => ?_)
            refine lv_goto (tgt := 5) hx hb dX7_leftOut_94 (by decide) ?_
            have hl : lv_has ls 4 [(2, .int (nI (q + 1))), (1, .int (iI (rlM (okLO cl (fm 0) (ai 0) (sna 0) wd (wma 0) (spa 0) (hea 0)) (q + 1)))), (0, .ref rr)] := by have h := hl; have e := rlM_t (ok := (okLO cl (fm 0) (ai 0) (sna 0) wd (wma 0) (spa 0) (hea 0))) (s := q) hokv (by omega); rw [e]; have h := lv_sub h [0, 1, 3] rfl; simp only [nI_iI] at h ⊢; exact h
            exact ih5 (q + 1) ((hearM cl (fm 0) (ai 0) (sna 0) wd (wma 0) (spa 0) (hea 0) (2 ^ (wma 0) - 1 - q)).1) ((hearM cl (fm 0) (ai 0) (sna 0) wd (wma 0) (spa 0) (hea 0) (2 ^ (wma 0) - 1 - q)).2) (by omega) (by omega) _ _ (hP.sub [8, 2, 3, 4, 5, 9, 6, 10, 11, 12, 13, 0, 1, 7, 14] rfl) (hD.sub [8, 2, 3, 4, 5, 9, 6, 10, 11, 12, 13, 0, 1, 7, 14] rfl rfl) hS _ (lv_sub hl [0, 1, 2] rfl)
          · rw [show (iI (rlM (okLO cl (fm 0) (ai 0) (sna 0) wd (wma 0) (spa 0) (hea 0)) q)) = (nI ((rlM (okLO cl (fm 0) (ai 0) (sna 0) wd (wma 0) (spa 0) (hea 0)) q).toNat)) from by rw [iI_nI (by omega)]] at hl
            have hrlb := rlM_bd (okLO cl (fm 0) (ai 0) (sna 0) wd (wma 0) (spa 0) (hea 0)) q
            refine lv_iload_n hx hb dX7_leftOut_74 rfl (lv_at hl 1 rfl) ?_
            refine k_S (As := [.int (nI q)]) (wr := [(ad 11, eArr cI 4 spa), (ad 12, eArr cI 4 hea), (ad 2, eArr cI 2 fm), (ad 3, eArr cI 8 pq), (ad 4, eArr cI 8 dq), (ad 5, eArr cI 8 kq), (ad 13, eArr cI 4 sna), (ad 20, eArr cI 150 ((hearM cl (fm 0) (ai 0) (sna 0) wd (wma 0) (spa 0) (hea 0) (2 ^ (wma 0) - 1 - q)).1)), (rr, eMod ad len kp uo tm em pc0), (ad 6, eArr cI 2 ai), (ad 7, eArr cI 4 wma), (ad 8, eArr cI 32 be), (ad 9, eArr cI 32 va), (ad 10, eArr cI 32 lo), (ad 21, eArr cI 150 ((hearM cl (fm 0) (ai 0) (sna 0) wd (wma 0) (spa 0) (hea 0) (2 ^ (wma 0) - 1 - q)).2))]) ⟨hx, hb, hml, hown, hts⟩ (c_X7_bits l D cI cC q (by omega)) (cwS 1 hts gX7_leftOut_X7_bits rfl rfl rfl (by decide +kernel) ⟨Nat.le_of_ble_eq_true rfl, Nat.le_of_ble_eq_true rfl⟩) rfl hl.1 rfl (Nat.le_of_ble_eq_true rfl) dX7_leftOut_75 ⟨Nat.zero_le _, Nat.zero_le _⟩ hN hK hP hD hS hA [] [0, 1, 2, 3, 4, 5, 6, 7, 8, 9, 10, 11, 12, 13, 14] rfl rfl ⟨rfl, rfl, by decide⟩ (fun r18 u H locs w19 hP hD hS => ?_)
            obtain rfl : r18 = (nI (popM q)) := w19
            refine lv_iload_n hx hb dX7_leftOut_78 rfl (lv_at hl 2 rfl) ?_
            refine k_S (As := [.int (nI ((rlM (okLO cl (fm 0) (ai 0) (sna 0) wd (wma 0) (spa 0) (hea 0)) q).toNat))]) (wr := [(ad 11, eArr cI 4 spa), (ad 12, eArr cI 4 hea), (ad 2, eArr cI 2 fm), (ad 3, eArr cI 8 pq), (ad 4, eArr cI 8 dq), (ad 5, eArr cI 8 kq), (ad 13, eArr cI 4 sna), (ad 20, eArr cI 150 ((hearM cl (fm 0) (ai 0) (sna 0) wd (wma 0) (spa 0) (hea 0) (2 ^ (wma 0) - 1 - q)).1)), (rr, eMod ad len kp uo tm em pc0), (ad 6, eArr cI 2 ai), (ad 7, eArr cI 4 wma), (ad 8, eArr cI 32 be), (ad 9, eArr cI 32 va), (ad 10, eArr cI 32 lo), (ad 21, eArr cI 150 ((hearM cl (fm 0) (ai 0) (sna 0) wd (wma 0) (spa 0) (hea 0) (2 ^ (wma 0) - 1 - q)).2))]) ⟨hx, hb, hml, hown, hts⟩ (c_X7_bits l D cI cC ((rlM (okLO cl (fm 0) (ai 0) (sna 0) wd (wma 0) (spa 0) (hea 0)) q).toNat) (by omega)) (cwS 1 hts gX7_leftOut_X7_bits rfl rfl rfl (by decide +kernel) ⟨Nat.le_of_ble_eq_true rfl, Nat.le_of_ble_eq_true rfl⟩) rfl hl.1 rfl (Nat.le_of_ble_eq_true rfl) dX7_leftOut_79 ⟨Nat.zero_le _, Nat.zero_le _⟩ hN hK hP hD hS hA [] [0, 1, 2, 3, 4, 5, 6, 7, 8, 9, 10, 11, 12, 13, 14] rfl rfl ⟨rfl, rfl, by decide⟩ (fun r20 u H locs w21 hP hD hS => ?_)
            obtain rfl : r20 = (nI (popM ((rlM (okLO cl (fm 0) (ai 0) (sna 0) wd (wma 0) (spa 0) (hea 0)) q).toNat))) := w21
            have hp1 := popM_le q
            have hp2 := popM_le ((rlM (okLO cl (fm 0) (ai 0) (sna 0) wd (wma 0) (spa 0) (hea 0)) q).toNat)
            refine x_icmp_ge (tgt := 89) hx hb dX7_leftOut_82 (by decide) (by omega) (by omega) (fun h22 => ?_) (fun h22 => ?_)
            · refine lv_iload_n hx hb dX7_leftOut_89 rfl (lv_at hl 2 rfl) ?_
              refine lv_istore_n (lv' := [(1, .int (nI ((rlM (okLO cl (fm 0) (ai 0) (sna 0) wd (wma 0) (spa 0) (hea 0)) q).toNat))), (3, .int (nI 1)), (2, .int (nI q)), (0, .ref rr)]) hx hb dX7_leftOut_90 rfl hl (by decide) rfl (fun ls hl => ?_)
              refine lv_iinc (v := (nI (q + 1))) (lv' := [(2, .int (nI (q + 1))), (1, .int (nI ((rlM (okLO cl (fm 0) (ai 0) (sna 0) wd (wma 0) (spa 0) (hea 0)) q).toNat))), (3, .int (nI 1)), (0, .ref rr)]) hx hb dX7_leftOut_91 hl (k := 2) rfl (nI_inc _ 1) (by decide) rfl (fun ls hl => ?_)
              refine lv_goto (tgt := 5) hx hb dX7_leftOut_94 (by decide) ?_
              rw [show (nI ((rlM (okLO cl (fm 0) (ai 0) (sna 0) wd (wma 0) (spa 0) (hea 0)) q).toNat)) = (iI (rlM (okLO cl (fm 0) (ai 0) (sna 0) wd (wma 0) (spa 0) (hea 0)) q)) from by rw [iI_nI (by omega)]] at hl
              have hl : lv_has ls 4 [(2, .int (nI (q + 1))), (1, .int (iI (rlM (okLO cl (fm 0) (ai 0) (sna 0) wd (wma 0) (spa 0) (hea 0)) (q + 1)))), (0, .ref rr)] := by have h := hl; have e := rlM_f (ok := (okLO cl (fm 0) (ai 0) (sna 0) wd (wma 0) (spa 0) (hea 0))) (s := q) (Or.inr (by omega)); rw [e]; have h := lv_sub h [0, 1, 3] rfl; simp only [nI_iI] at h ⊢; exact h
              exact ih5 (q + 1) ((hearM cl (fm 0) (ai 0) (sna 0) wd (wma 0) (spa 0) (hea 0) (2 ^ (wma 0) - 1 - q)).1) ((hearM cl (fm 0) (ai 0) (sna 0) wd (wma 0) (spa 0) (hea 0) (2 ^ (wma 0) - 1 - q)).2) (by omega) (by omega) _ _ (hP.sub [8, 2, 3, 4, 5, 9, 6, 10, 11, 12, 13, 0, 1, 7, 14] rfl) (hD.sub [8, 2, 3, 4, 5, 9, 6, 10, 11, 12, 13, 0, 1, 7, 14] rfl rfl) hS _ (lv_sub hl [0, 1, 2] rfl)
            · refine lv_iload_n hx hb dX7_leftOut_85 rfl (lv_at hl 1 rfl) ?_
              refine lv_goto (tgt := 90) hx hb dX7_leftOut_86 (by decide) ?_
              refine lv_istore_n (lv' := [(1, .int (nI q)), (3, .int (nI 1)), (2, .int (nI q)), (0, .ref rr)]) hx hb dX7_leftOut_90 rfl hl (by decide) rfl (fun ls hl => ?_)
              refine lv_iinc (v := (nI (q + 1))) (lv' := [(2, .int (nI (q + 1))), (1, .int (nI q)), (3, .int (nI 1)), (0, .ref rr)]) hx hb dX7_leftOut_91 hl (k := 2) rfl (nI_inc _ 1) (by decide) rfl (fun ls hl => ?_)
              refine lv_goto (tgt := 5) hx hb dX7_leftOut_94 (by decide) ?_
              have hl : lv_has ls 4 [(2, .int (nI (q + 1))), (1, .int (iI (rlM (okLO cl (fm 0) (ai 0) (sna 0) wd (wma 0) (spa 0) (hea 0)) (q + 1)))), (0, .ref rr)] := by have h := hl; have e := rlM_t (ok := (okLO cl (fm 0) (ai 0) (sna 0) wd (wma 0) (spa 0) (hea 0))) (s := q) hokv (by omega); rw [e]; have h := lv_sub h [0, 1, 3] rfl; simp only [nI_iI] at h ⊢; exact h
              exact ih5 (q + 1) ((hearM cl (fm 0) (ai 0) (sna 0) wd (wma 0) (spa 0) (hea 0) (2 ^ (wma 0) - 1 - q)).1) ((hearM cl (fm 0) (ai 0) (sna 0) wd (wma 0) (spa 0) (hea 0) (2 ^ (wma 0) - 1 - q)).2) (by omega) (by omega) _ _ (hP.sub [8, 2, 3, 4, 5, 9, 6, 10, 11, 12, 13, 0, 1, 7, 14] rfl) (hD.sub [8, 2, 3, 4, 5, 9, 6, 10, 11, 12, 13, 0, 1, 7, 14] rfl rfl) hS _ (lv_sub hl [0, 1, 2] rfl)
  exact loop5 _ 0 lg vg (Nat.lt_succ_self _) (Nat.zero_le _) _ _ (hP.sub [0, 1, 2, 3, 4, 5, 6, 7, 8, 9, 10, 11, 12, 13, 14] rfl) (hD.sub [0, 1, 2, 3, 4, 5, 6, 7, 8, 9, 10, 11, 12, 13, 14] rfl rfl) hS _ (lv_sub hl [0, 1, 2] rfl)

set_option maxRecDepth 100000 in
set_option maxHeartbeats 4000000 in
theorem c_X7_heckle_bad (l : Launch) (D : va_G) (cI cC : ClassId) (rr : Nat) (ad : Nat → Nat) (len : Nat) (kp : Nat) (uo : Nat) (tm : Nat) (em : Nat) (pc0 : Nat) (z : Int) (z2 : Int) (z3 : Int) (hz : -2147483648 ≤ z ∧ z < 2147483648) (hz2 : -2147483648 ≤ z2 ∧ z2 < 2147483648) (hz3 : -2147483648 ≤ z3 ∧ z3 < 2147483648) (hbad : (z < 0 ∨ 40 < z) ∨ (z2 < 1 ∨ 7 < z2) ∨ (z3 < 0 ∨ 1 < z3)) : mtI l D cI cC yX7_heckle wsX7_heckle ({ frames := 2, cells := 0, slots := 0, locals := 45 }) [.ref rr, .int (iI z), .int (iI z2), .int (iI z3)] [(rr, eMod ad len kp uo tm em pc0)] (fun (r : Int32) (_ : Unit) => r = (iI (-1))) (fun (_ : Unit) => [(rr, eMod ad len kp uo tm em pc0)]) := by
  refine mtI_of (cc := cX7_heckle) (maxL := 7) (ret := (some .int)) (by decide) rfl rfl ?_
  intro p e s m below meth c A hx hb hml hr hts hown hlocks hN hA hK hP hD hS ls hl
  have hown : s.vm.findClass RX7 = some m.cls := hown
  have hl : lv_has ls 7 [(0, .ref rr), (1, .int (iI z)), (2, .int (iI z2)), (3, .int (iI z3))] := hl
  obtain ⟨H, hHe⟩ : ∃ H, H = s.heap := ⟨_, rfl⟩
  rw [← hHe] at hP ⊢
  have hS : va_S A s.heap H [] := by rw [hHe]; exact va_S.rf
  refine lv_iload_n hx hb dX7_heckle_0 rfl (lv_at hl 1 rfl) ?_
  refine k_S (As := [.int (iI z)]) (wr := [(rr, eMod ad len kp uo tm em pc0)]) ⟨hx, hb, hml, hown, hts⟩ (c_X7_isYard l D cI cC z (by omega)) (cwS 1 hts gX7_heckle_X7_isYard rfl rfl rfl (by decide +kernel) ⟨Nat.le_of_ble_eq_true rfl, Nat.le_of_ble_eq_true rfl⟩) rfl hl.1 rfl (Nat.le_of_ble_eq_true rfl) dX7_heckle_1 ⟨Nat.zero_le _, Nat.zero_le _⟩ hN hK hP hD hS hA [] [0] rfl rfl ⟨rfl, rfl, by decide⟩ (fun r1 u H locs w2 hP hD hS => ?_)
  obtain ⟨rfl, h3, h4⟩ | ⟨rfl, h5⟩ : (r1 = (nI 1) ∧ 0 ≤ z ∧ z ≤ 40) ∨ (r1 = (nI 0) ∧ (z < 0 ∨ 40 < z)) := w2
  · refine x_if_eq (tgt := 29) hx hb dX7_heckle_4 (by decide) (by omega) (fun h6 => False.elim (by omega)) (fun h6 => ?_)
    refine lv_iload_n hx hb dX7_heckle_7 rfl (lv_at hl 2 rfl) ?_
    refine z_i2l hx hb dX7_heckle_8 (by omega) ?_
    refine lv_lconst (v := lN 1) hx hb dX7_heckle_9 rfl ?_
    refine lv_ldc2 (v := lN 7) hx hb hown (hts (.constantLong RX7 109 7) (by decide +kernel)) dX7_heckle_10 ?_
    refine k_S (As := [.long (lI z2), .long (lI (((1 : Nat) : Int))), .long (lI (((7 : Nat) : Int)))]) (wr := [(rr, eMod ad len kp uo tm em pc0)]) ⟨hx, hb, hml, hown, hts⟩ (c_X7_in l D cI cC z2 (((1 : Nat) : Int)) (((7 : Nat) : Int)) (by omega) (by omega) (by omega)) (cwS 3 hts gX7_heckle_X7_in rfl rfl rfl (by decide +kernel) ⟨Nat.le_of_ble_eq_true rfl, Nat.le_of_ble_eq_true rfl⟩) rfl hl.1 (by simp only [nI_iI, lN_lI]; rfl) (Nat.le_of_ble_eq_true rfl) dX7_heckle_13 ⟨Nat.zero_le _, Nat.zero_le _⟩ hN hK hP hD hS hA [] [0] rfl rfl ⟨rfl, rfl, by decide⟩ (fun r7 u H locs w8 hP hD hS => ?_)
    obtain ⟨rfl, h9, h10⟩ | ⟨rfl, h11⟩ : (r7 = (nI 1) ∧ (((1 : Nat) : Int)) ≤ z2 ∧ z2 ≤ (((7 : Nat) : Int))) ∨ (r7 = (nI 0) ∧ (z2 < (((1 : Nat) : Int)) ∨ (((7 : Nat) : Int)) < z2)) := w8
    · refine x_if_eq (tgt := 29) hx hb dX7_heckle_16 (by decide) (by omega) (fun h12 => False.elim (by omega)) (fun h12 => ?_)
      refine lv_iload_n hx hb dX7_heckle_19 rfl (lv_at hl 3 rfl) ?_
      refine z_i2l hx hb dX7_heckle_20 (by omega) ?_
      refine lv_lconst (v := lN 0) hx hb dX7_heckle_21 rfl ?_
      refine lv_lconst (v := lN 1) hx hb dX7_heckle_22 rfl ?_
      refine k_S (As := [.long (lI z3), .long (lI (((0 : Nat) : Int))), .long (lI (((1 : Nat) : Int)))]) (wr := [(rr, eMod ad len kp uo tm em pc0)]) ⟨hx, hb, hml, hown, hts⟩ (c_X7_in l D cI cC z3 (((0 : Nat) : Int)) (((1 : Nat) : Int)) (by omega) (by omega) (by omega)) (cwS 3 hts gX7_heckle_X7_in rfl rfl rfl (by decide +kernel) ⟨Nat.le_of_ble_eq_true rfl, Nat.le_of_ble_eq_true rfl⟩) rfl hl.1 (by simp only [nI_iI, lN_lI]; rfl) (Nat.le_of_ble_eq_true rfl) dX7_heckle_23 ⟨Nat.zero_le _, Nat.zero_le _⟩ hN hK hP hD hS hA [] [0] rfl rfl ⟨rfl, rfl, by decide⟩ (fun r13 u H locs w14 hP hD hS => ?_)
      obtain ⟨rfl, h15, h16⟩ | ⟨rfl, h17⟩ : (r13 = (nI 1) ∧ (((0 : Nat) : Int)) ≤ z3 ∧ z3 ≤ (((1 : Nat) : Int))) ∨ (r13 = (nI 0) ∧ (z3 < (((0 : Nat) : Int)) ∨ (((1 : Nat) : Int)) < z3)) := w14
      · refine x_if_ne (tgt := 31) hx hb dX7_heckle_26 (by decide) (by omega) (fun h18 => ?_) (fun h18 => False.elim (by omega))
        exact False.elim (by omega)
      · refine x_if_ne (tgt := 31) hx hb dX7_heckle_26 (by decide) (by omega) (fun h19 => False.elim (by omega)) (fun h19 => ?_)
        refine lv_iconst (v := (iI (-1))) hx hb dX7_heckle_29 (by decide) ?_
        exact x_iret hx hb hr hlocks dX7_heckle_30 rfl (post := fun (r : Int32) (_ : Unit) => r = (iI (-1))) (w1 := fun (_ : Unit) => [(rr, eMod ad len kp uo tm em pc0)]) () rfl hK hP hD hS
    · refine x_if_eq (tgt := 29) hx hb dX7_heckle_16 (by decide) (by omega) (fun h20 => ?_) (fun h20 => False.elim (by omega))
      refine lv_iconst (v := (iI (-1))) hx hb dX7_heckle_29 (by decide) ?_
      exact x_iret hx hb hr hlocks dX7_heckle_30 rfl (post := fun (r : Int32) (_ : Unit) => r = (iI (-1))) (w1 := fun (_ : Unit) => [(rr, eMod ad len kp uo tm em pc0)]) () rfl hK hP hD hS
  · refine x_if_eq (tgt := 29) hx hb dX7_heckle_4 (by decide) (by omega) (fun h21 => ?_) (fun h21 => False.elim (by omega))
    refine lv_iconst (v := (iI (-1))) hx hb dX7_heckle_29 (by decide) ?_
    exact x_iret hx hb hr hlocks dX7_heckle_30 rfl (post := fun (r : Int32) (_ : Unit) => r = (iI (-1))) (w1 := fun (_ : Unit) => [(rr, eMod ad len kp uo tm em pc0)]) () rfl hK hP hD hS

set_option maxRecDepth 100000 in
set_option maxHeartbeats 4000000 in
theorem c_X7_heckle_some0 (l : Launch) (D : va_G) (cI cC : ClassId) (rr : Nat) (ad : Nat → Nat) (len : Nat) (kp : Nat) (uo : Nat) (tm : Nat) (em : Nat) (pc0 : Nat) (fm : Nat → Nat) (pq : Nat → Nat) (dq : Nat → Nat) (kq : Nat → Nat) (ai : Nat → Nat) (sna : Nat → Nat) (wma : Nat → Nat) (be : Nat → Nat) (va : Nat → Nat) (lo : Nat → Nat) (spa : Nat → Nat) (hea : Nat → Nat) (lg : Nat → Nat) (vg : Nat → Nat) (cl : Nat → Nat) (hrc : relC pq dq kq cl (fm 0)) (hok : okC cl (fm 0)) (hfm : fm 0 ≤ 4 ∧ ai 0 ≤ 99 ∧ sna 0 < 2147483648) (wd : Nat → Nat) (hrd : relD be va lo wd (wma 0)) (hokd : okD wd (wma 0)) (hnw : wma 0 ≤ 8) (hsp : spa 0 ≤ 40 ∧ hea 0 ≤ 40) (x : Nat) (v : Nat) (hx4 : x ≤ 40 ∧ 1 ≤ v ∧ v ≤ 7) (l0 : Nat) (t0 : Nat) (hlt0 : 1 ≤ l0 ∧ l0 ≤ 60 ∧ t0 ≤ 60) (htr : spoB (hearM cl (fm 0) (ai 0) (sna 0) wd (wma 0) (spa 0) (hea 0) (2 ^ (wma 0) - 1)) (hitS (hearM cl (fm 0) (ai 0) (sna 0) wd (wma 0) (spa 0) (hea 0) (2 ^ (wma 0) - 1)) wd 0 (absd (spa 0) (hea 0)) (ai 0 * absd (spa 0) (hea 0)) (wma 0)) wd (wma 0) (absd (spa 0) (hea 0)) (ai 0 * absd (spa 0) (hea 0)) (waysM cl (ai 0) (sna 0) x (hea 0) (fm 0)) v l0 t0 = true) (hb1 : ∀ q, 1 ≤ q → q < l0 → ∀ t, t ≤ 60 → spoB (hearM cl (fm 0) (ai 0) (sna 0) wd (wma 0) (spa 0) (hea 0) (2 ^ (wma 0) - 1)) (hitS (hearM cl (fm 0) (ai 0) (sna 0) wd (wma 0) (spa 0) (hea 0) (2 ^ (wma 0) - 1)) wd 0 (absd (spa 0) (hea 0)) (ai 0 * absd (spa 0) (hea 0)) (wma 0)) wd (wma 0) (absd (spa 0) (hea 0)) (ai 0 * absd (spa 0) (hea 0)) (waysM cl (ai 0) (sna 0) x (hea 0) (fm 0)) v q t = false) (hb2 : ∀ t, t < t0 → spoB (hearM cl (fm 0) (ai 0) (sna 0) wd (wma 0) (spa 0) (hea 0) (2 ^ (wma 0) - 1)) (hitS (hearM cl (fm 0) (ai 0) (sna 0) wd (wma 0) (spa 0) (hea 0) (2 ^ (wma 0) - 1)) wd 0 (absd (spa 0) (hea 0)) (ai 0 * absd (spa 0) (hea 0)) (wma 0)) wd (wma 0) (absd (spa 0) (hea 0)) (ai 0 * absd (spa 0) (hea 0)) (waysM cl (ai 0) (sna 0) x (hea 0) (fm 0)) v l0 t = false) : mtI l D cI cC yX7_heckle wsX7_heckle ({ frames := 4, cells := 0, slots := 0, locals := 98 }) [.ref rr, .int (nI x), .int (nI v), .int (nI 0)] [(rr, eMod ad len kp uo tm em pc0), (ad 2, eArr cI 2 fm), (ad 3, eArr cI 8 pq), (ad 4, eArr cI 8 dq), (ad 5, eArr cI 8 kq), (ad 6, eArr cI 2 ai), (ad 13, eArr cI 4 sna), (ad 7, eArr cI 4 wma), (ad 8, eArr cI 32 be), (ad 9, eArr cI 32 va), (ad 10, eArr cI 32 lo), (ad 11, eArr cI 4 spa), (ad 12, eArr cI 4 hea), (ad 20, eArr cI 150 lg), (ad 21, eArr cI 150 vg)] (fun (r : Int32) ((lg', vg') : (Nat → Nat) × (Nat → Nat)) => r = (nI l0)) (fun ((lg', vg') : (Nat → Nat) × (Nat → Nat)) => [(rr, eMod ad len kp uo tm em pc0), (ad 2, eArr cI 2 fm), (ad 3, eArr cI 8 pq), (ad 4, eArr cI 8 dq), (ad 5, eArr cI 8 kq), (ad 6, eArr cI 2 ai), (ad 13, eArr cI 4 sna), (ad 7, eArr cI 4 wma), (ad 8, eArr cI 32 be), (ad 9, eArr cI 32 va), (ad 10, eArr cI 32 lo), (ad 11, eArr cI 4 spa), (ad 12, eArr cI 4 hea), (ad 20, eArr cI 150 lg'), (ad 21, eArr cI 150 vg')]) := by
  refine mtI_of (cc := cX7_heckle) (maxL := 7) (ret := (some .int)) (by decide) rfl rfl ?_
  intro p e s m below meth c A hx hb hml hr hts hown hlocks hN hA hK hP hD hS ls hl
  have hown : s.vm.findClass RX7 = some m.cls := hown
  have hl : lv_has ls 7 [(0, .ref rr), (1, .int (nI x)), (2, .int (nI v)), (3, .int (nI 0))] := hl
  obtain ⟨H, hHe⟩ : ∃ H, H = s.heap := ⟨_, rfl⟩
  rw [← hHe] at hP ⊢
  have hS : va_S A s.heap H [] := by rw [hHe]; exact va_S.rf
  have fl40 := hts (.fieldLink RX7 40 "EchoPaysRentModel" "speaker" "[I") (by decide +kernel)
  have inX7 : ∀ w ∈ wsX70, w ∈ wsX7_heckle := by decide +kernel
  have fl43 := hts (.fieldLink RX7 43 "EchoPaysRentModel" "hearer" "[I") (by decide +kernel)
  have hnn : fm 0 ≤ 4 ∧ wma 0 ≤ 8 := ⟨hfm.1, hnw⟩
  have hp8 := pow8 hnw
  have f1 : 2 ^ wma 0 ≤ 256 := pow8 hnw
  have f2 : 1 ≤ 2 ^ wma 0 := Nat.one_le_two_pow
  refine lv_iload_n hx hb dX7_heckle_0 rfl (lv_at hl 1 rfl) ?_
  refine k_S (As := [.int (iI (((x : Nat) : Int)))]) (wr := [(rr, eMod ad len kp uo tm em pc0), (ad 2, eArr cI 2 fm), (ad 3, eArr cI 8 pq), (ad 4, eArr cI 8 dq), (ad 5, eArr cI 8 kq), (ad 6, eArr cI 2 ai), (ad 13, eArr cI 4 sna), (ad 7, eArr cI 4 wma), (ad 8, eArr cI 32 be), (ad 9, eArr cI 32 va), (ad 10, eArr cI 32 lo), (ad 11, eArr cI 4 spa), (ad 12, eArr cI 4 hea), (ad 20, eArr cI 150 lg), (ad 21, eArr cI 150 vg)]) ⟨hx, hb, hml, hown, hts⟩ (c_X7_isYard l D cI cC (((x : Nat) : Int)) (by omega)) (cwS 1 hts gX7_heckle_X7_isYard rfl rfl rfl (by decide +kernel) ⟨Nat.le_of_ble_eq_true rfl, Nat.le_of_ble_eq_true rfl⟩) rfl hl.1 (by simp only [nI_iI]; rfl) (Nat.le_of_ble_eq_true rfl) dX7_heckle_1 ⟨Nat.zero_le _, Nat.zero_le _⟩ hN hK hP hD hS hA [] [0, 1, 2, 3, 4, 5, 6, 7, 8, 9, 10, 11, 12, 13, 14] rfl rfl ⟨rfl, rfl, by decide⟩ (fun r3 u H locs w4 hP hD hS => ?_)
  obtain ⟨rfl, h5, h6⟩ | ⟨rfl, h7⟩ : (r3 = (nI 1) ∧ 0 ≤ (((x : Nat) : Int)) ∧ (((x : Nat) : Int)) ≤ 40) ∨ (r3 = (nI 0) ∧ ((((x : Nat) : Int)) < 0 ∨ 40 < (((x : Nat) : Int)))) := w4
  · refine x_if_eq (tgt := 29) hx hb dX7_heckle_4 (by decide) (by omega) (fun h8 => False.elim (by omega)) (fun h8 => ?_)
    refine lv_iload_n hx hb dX7_heckle_7 rfl (lv_at hl 2 rfl) ?_
    refine n_i2l hx hb dX7_heckle_8 (by omega) ?_
    refine lv_lconst (v := lN 1) hx hb dX7_heckle_9 rfl ?_
    refine lv_ldc2 (v := lN 7) hx hb hown (hts (.constantLong RX7 109 7) (by decide +kernel)) dX7_heckle_10 ?_
    refine k_S (As := [.long (lI (((v : Nat) : Int))), .long (lI (((1 : Nat) : Int))), .long (lI (((7 : Nat) : Int)))]) (wr := [(rr, eMod ad len kp uo tm em pc0), (ad 2, eArr cI 2 fm), (ad 3, eArr cI 8 pq), (ad 4, eArr cI 8 dq), (ad 5, eArr cI 8 kq), (ad 6, eArr cI 2 ai), (ad 13, eArr cI 4 sna), (ad 7, eArr cI 4 wma), (ad 8, eArr cI 32 be), (ad 9, eArr cI 32 va), (ad 10, eArr cI 32 lo), (ad 11, eArr cI 4 spa), (ad 12, eArr cI 4 hea), (ad 20, eArr cI 150 lg), (ad 21, eArr cI 150 vg)]) ⟨hx, hb, hml, hown, hts⟩ (c_X7_in l D cI cC (((v : Nat) : Int)) (((1 : Nat) : Int)) (((7 : Nat) : Int)) (by omega) (by omega) (by omega)) (cwS 3 hts gX7_heckle_X7_in rfl rfl rfl (by decide +kernel) ⟨Nat.le_of_ble_eq_true rfl, Nat.le_of_ble_eq_true rfl⟩) rfl hl.1 (by simp only [nI_iI, lN_lI]; rfl) (Nat.le_of_ble_eq_true rfl) dX7_heckle_13 ⟨Nat.zero_le _, Nat.zero_le _⟩ hN hK hP hD hS hA [] [0, 1, 2, 3, 4, 5, 6, 7, 8, 9, 10, 11, 12, 13, 14] rfl rfl ⟨rfl, rfl, by decide⟩ (fun r9 u H locs w10 hP hD hS => ?_)
    obtain ⟨rfl, h11, h12⟩ | ⟨rfl, h13⟩ : (r9 = (nI 1) ∧ (((1 : Nat) : Int)) ≤ (((v : Nat) : Int)) ∧ (((v : Nat) : Int)) ≤ (((7 : Nat) : Int))) ∨ (r9 = (nI 0) ∧ ((((v : Nat) : Int)) < (((1 : Nat) : Int)) ∨ (((7 : Nat) : Int)) < (((v : Nat) : Int)))) := w10
    · refine x_if_eq (tgt := 29) hx hb dX7_heckle_16 (by decide) (by omega) (fun h14 => False.elim (by omega)) (fun h14 => ?_)
      refine lv_iload_n hx hb dX7_heckle_19 rfl (lv_at hl 3 rfl) ?_
      refine n_i2l hx hb dX7_heckle_20 (by omega) ?_
      refine lv_lconst (v := lN 0) hx hb dX7_heckle_21 rfl ?_
      refine lv_lconst (v := lN 1) hx hb dX7_heckle_22 rfl ?_
      refine k_S (As := [.long (lI (((0 : Nat) : Int))), .long (lI (((0 : Nat) : Int))), .long (lI (((1 : Nat) : Int)))]) (wr := [(rr, eMod ad len kp uo tm em pc0), (ad 2, eArr cI 2 fm), (ad 3, eArr cI 8 pq), (ad 4, eArr cI 8 dq), (ad 5, eArr cI 8 kq), (ad 6, eArr cI 2 ai), (ad 13, eArr cI 4 sna), (ad 7, eArr cI 4 wma), (ad 8, eArr cI 32 be), (ad 9, eArr cI 32 va), (ad 10, eArr cI 32 lo), (ad 11, eArr cI 4 spa), (ad 12, eArr cI 4 hea), (ad 20, eArr cI 150 lg), (ad 21, eArr cI 150 vg)]) ⟨hx, hb, hml, hown, hts⟩ (c_X7_in l D cI cC (((0 : Nat) : Int)) (((0 : Nat) : Int)) (((1 : Nat) : Int)) (by omega) (by omega) (by omega)) (cwS 3 hts gX7_heckle_X7_in rfl rfl rfl (by decide +kernel) ⟨Nat.le_of_ble_eq_true rfl, Nat.le_of_ble_eq_true rfl⟩) rfl hl.1 (by simp only [nI_iI, lN_lI]; rfl) (Nat.le_of_ble_eq_true rfl) dX7_heckle_23 ⟨Nat.zero_le _, Nat.zero_le _⟩ hN hK hP hD hS hA [] [0, 1, 2, 3, 4, 5, 6, 7, 8, 9, 10, 11, 12, 13, 14] rfl rfl ⟨rfl, rfl, by decide⟩ (fun r15 u H locs w16 hP hD hS => ?_)
      obtain ⟨rfl, h17, h18⟩ | ⟨rfl, h19⟩ : (r15 = (nI 1) ∧ (((0 : Nat) : Int)) ≤ (((0 : Nat) : Int)) ∧ (((0 : Nat) : Int)) ≤ (((1 : Nat) : Int))) ∨ (r15 = (nI 0) ∧ ((((0 : Nat) : Int)) < (((0 : Nat) : Int)) ∨ (((1 : Nat) : Int)) < (((0 : Nat) : Int)))) := w16
      · refine x_if_ne (tgt := 31) hx hb dX7_heckle_26 (by decide) (by omega) (fun h20 => ?_) (fun h20 => False.elim (by omega))
        refine lv_aload_n hx hb dX7_heckle_31 rfl (lv_at hl 0 rfl) ?_
        refine lv_aload_n hx hb dX7_heckle_32 rfl (lv_at hl 0 rfl) ?_
        refine va_get (D := D) (ci := 7) (v := .ref (ad 11)) (C := RX7) (T := TX7) (N := 28) hx hb hts inX7 hown hK hP 0 rfl rfl 11 (by decide) fl40 (fun _ h9 => h9) rfl dX7_heckle_33 ?_
        refine lv_iconst (v := (nI 0)) hx hb dX7_heckle_36 (by decide) ?_
        refine x_iald (A := A) hx hb hK hP 11 0 rfl rfl dX7_heckle_37 (by omega) (by omega) ?_
        refine lv_aload_n hx hb dX7_heckle_38 rfl (lv_at hl 0 rfl) ?_
        refine va_get (D := D) (ci := 7) (v := .ref (ad 12)) (C := RX7) (T := TX7) (N := 28) hx hb hts inX7 hown hK hP 0 rfl rfl 12 (by decide) fl43 (fun _ h9 => h9) rfl dX7_heckle_39 ?_
        refine lv_iconst (v := (nI 0)) hx hb dX7_heckle_42 (by decide) ?_
        refine x_iald (A := A) hx hb hK hP 12 0 rfl rfl dX7_heckle_43 (by omega) (by omega) ?_
        refine lv_iconst (v := (nI 0)) hx hb dX7_heckle_44 (by decide) ?_
        refine k_Vv (q := (RX7, TX7, 28)) (ci := 7) (As := [.int (nI (spa 0)), .int (nI (hea 0)), .int (nI 0)]) (wr := [(ad 11, eArr cI 4 spa), (ad 12, eArr cI 4 hea)]) ⟨hx, hb, hml, hown, hts⟩ (c_X7_sayAll l D cI cC rr ad len kp uo tm em pc0 fm pq dq kq ai sna wma be va lo cl hrc hok (by omega) wd hrd hokd (by omega) (spa 0) (hea 0) (by omega) 0 (Nat.two_pow_pos _) lg vg) (cwV 3 hts gX7_heckle_X7_sayAll rfl rfl rfl (by decide +kernel) ⟨Nat.le_of_ble_eq_true rfl, Nat.le_of_ble_eq_true rfl⟩) rfl hl.1 rfl (Nat.le_of_ble_eq_true rfl) dX7_heckle_45 ⟨Nat.zero_le _, Nat.zero_le _⟩ hN hK hP hD hS hA rfl (q0 := 0) rfl [0, 1, 2, 3, 4, 5, 6, 7, 8, 9, 10, 13, 14] [11, 12] rfl rfl ⟨rfl, rfl, by decide⟩ (fun u H locs w22 hP hD hS => ?_)
        have hP : va_P D vwCl [(ad 11, eArr cI 4 spa), (ad 12, eArr cI 4 hea), (rr, eMod ad len kp uo tm em pc0), (ad 2, eArr cI 2 fm), (ad 3, eArr cI 8 pq), (ad 4, eArr cI 8 dq), (ad 5, eArr cI 8 kq), (ad 6, eArr cI 2 ai), (ad 13, eArr cI 4 sna), (ad 7, eArr cI 4 wma), (ad 8, eArr cI 32 be), (ad 9, eArr cI 32 va), (ad 10, eArr cI 32 lo), (ad 20, eArr cI 150 ((hearM cl (fm 0) (ai 0) (sna 0) wd (wma 0) (spa 0) (hea 0) (2 ^ (wma 0) - 1)).1)), (ad 21, eArr cI 150 ((hearM cl (fm 0) (ai 0) (sna 0) wd (wma 0) (spa 0) (hea 0) (2 ^ (wma 0) - 1)).2))] H := by rw [show 2 ^ (wma 0) - 1 = 2 ^ (wma 0) - 1 - 0 from rfl]; exact hP
        have hD : va_D A [(ad 11, eArr cI 4 spa), (ad 12, eArr cI 4 hea), (rr, eMod ad len kp uo tm em pc0), (ad 2, eArr cI 2 fm), (ad 3, eArr cI 8 pq), (ad 4, eArr cI 8 dq), (ad 5, eArr cI 8 kq), (ad 6, eArr cI 2 ai), (ad 13, eArr cI 4 sna), (ad 7, eArr cI 4 wma), (ad 8, eArr cI 32 be), (ad 9, eArr cI 32 va), (ad 10, eArr cI 32 lo), (ad 20, eArr cI 150 ((hearM cl (fm 0) (ai 0) (sna 0) wd (wma 0) (spa 0) (hea 0) (2 ^ (wma 0) - 1)).1)), (ad 21, eArr cI 150 ((hearM cl (fm 0) (ai 0) (sna 0) wd (wma 0) (spa 0) (hea 0) (2 ^ (wma 0) - 1)).2))] := by rw [show 2 ^ (wma 0) - 1 = 2 ^ (wma 0) - 1 - 0 from rfl]; exact hD
        refine lv_aload_n hx hb dX7_heckle_48 rfl (lv_at hl 0 rfl) ?_
        refine lv_aload_n hx hb dX7_heckle_49 rfl (lv_at hl 0 rfl) ?_
        refine va_get (D := D) (ci := 7) (v := .ref (ad 11)) (C := RX7) (T := TX7) (N := 28) hx hb hts inX7 hown hK hP 2 rfl rfl 11 (by decide) fl40 (fun _ h9 => h9) rfl dX7_heckle_50 ?_
        refine lv_iconst (v := (nI 0)) hx hb dX7_heckle_53 (by decide) ?_
        refine x_iald (A := A) hx hb hK hP 0 0 rfl rfl dX7_heckle_54 (by omega) (by omega) ?_
        refine lv_aload_n hx hb dX7_heckle_55 rfl (lv_at hl 0 rfl) ?_
        refine va_get (D := D) (ci := 7) (v := .ref (ad 12)) (C := RX7) (T := TX7) (N := 28) hx hb hts inX7 hown hK hP 2 rfl rfl 12 (by decide) fl43 (fun _ h9 => h9) rfl dX7_heckle_56 ?_
        refine lv_iconst (v := (nI 0)) hx hb dX7_heckle_59 (by decide) ?_
        refine x_iald (A := A) hx hb hK hP 1 0 rfl rfl dX7_heckle_60 (by omega) (by omega) ?_
        refine k_V (q := (RX7, TX7, 28)) (ci := 7) (As := [.int (nI (spa 0)), .int (nI (hea 0))]) (wr := [(ad 11, eArr cI 4 spa), (ad 12, eArr cI 4 hea), (ad 2, eArr cI 2 fm), (ad 3, eArr cI 8 pq), (ad 4, eArr cI 8 dq), (ad 5, eArr cI 8 kq), (ad 13, eArr cI 4 sna), (ad 20, eArr cI 150 ((hearM cl (fm 0) (ai 0) (sna 0) wd (wma 0) (spa 0) (hea 0) (2 ^ (wma 0) - 1)).1))]) ⟨hx, hb, hml, hown, hts⟩ (c_X7_clearOf l D cI cC rr ad len kp uo tm em pc0 ai wma be va lo (hearM cl (fm 0) (ai 0) (sna 0) wd (wma 0) (spa 0) (hea 0) (2 ^ (wma 0) - 1)) wd hrd hokd (by omega) hfm.2.1 (spa 0) (hea 0) (by omega) (okS_play okS_quiet hokd _ (Nat.le_refl _))) (cwV 2 hts gX7_heckle_X7_clearOf rfl rfl rfl (by decide +kernel) ⟨Nat.le_of_ble_eq_true rfl, Nat.le_of_ble_eq_true rfl⟩) rfl hl.1 rfl (Nat.le_of_ble_eq_true rfl) dX7_heckle_61 ⟨Nat.zero_le _, Nat.zero_le _⟩ hN hK hP hD hS hA rfl (q0 := 2) rfl [2, 7, 9, 10, 11, 12, 14] [0, 1, 3, 4, 5, 6, 8, 13] rfl rfl ⟨rfl, rfl, by decide⟩ (fun r23 u H locs w24 hP hD hS => ?_)
        obtain rfl : r23 = (nI (hitS (hearM cl (fm 0) (ai 0) (sna 0) wd (wma 0) (spa 0) (hea 0) (2 ^ (wma 0) - 1)) wd 0 (absd (spa 0) (hea 0)) (ai 0 * absd (spa 0) (hea 0)) (wma 0))) := w24
        have hh0 : hitS (hearM cl (fm 0) (ai 0) (sna 0) wd (wma 0) (spa 0) (hea 0) (2 ^ (wma 0) - 1)) wd 0 (absd (spa 0) (hea 0)) (ai 0 * absd (spa 0) (hea 0)) (wma 0) < 256 := Nat.lt_of_lt_of_le (hitS_lt _ _ _ _ _ _) hp8
        refine lv_istore (lv' := [(4, .int (nI (hitS (hearM cl (fm 0) (ai 0) (sna 0) wd (wma 0) (spa 0) (hea 0) (2 ^ (wma 0) - 1)) wd 0 (absd (spa 0) (hea 0)) (ai 0 * absd (spa 0) (hea 0)) (wma 0)))), (0, .ref rr), (1, .int (nI x)), (2, .int (nI v)), (3, .int (nI 0))]) hx hb dX7_heckle_64 hl (by decide) rfl (fun ls hl => ?_)
        refine lv_iconst (v := (nI 1)) hx hb dX7_heckle_66 (by decide) ?_
        refine lv_istore (lv' := [(5, .int (nI 1)), (4, .int (nI (hitS (hearM cl (fm 0) (ai 0) (sna 0) wd (wma 0) (spa 0) (hea 0) (2 ^ (wma 0) - 1)) wd 0 (absd (spa 0) (hea 0)) (ai 0 * absd (spa 0) (hea 0)) (wma 0)))), (0, .ref rr), (1, .int (nI x)), (2, .int (nI v)), (3, .int (nI 0))]) hx hb dX7_heckle_67 hl (by decide) rfl (fun ls hl => ?_)
        have loop69 : ∀ (nn69 : Nat) (lv : Nat) (lg' : Nat → Nat) (vg' : Nat → Nat), 61 - lv < nn69 → (1 ≤ lv) → (lv ≤ 61) → (lv ≤ l0) → ∀ (H : Heap) (locs : List Loc), va_P D vwCl [(rr, eMod ad len kp uo tm em pc0), (ad 2, eArr cI 2 fm), (ad 3, eArr cI 8 pq), (ad 4, eArr cI 8 dq), (ad 5, eArr cI 8 kq), (ad 6, eArr cI 2 ai), (ad 13, eArr cI 4 sna), (ad 7, eArr cI 4 wma), (ad 8, eArr cI 32 be), (ad 9, eArr cI 32 va), (ad 10, eArr cI 32 lo), (ad 11, eArr cI 4 spa), (ad 12, eArr cI 4 hea), (ad 20, eArr cI 150 lg'), (ad 21, eArr cI 150 vg')] H → va_D A [(rr, eMod ad len kp uo tm em pc0), (ad 2, eArr cI 2 fm), (ad 3, eArr cI 8 pq), (ad 4, eArr cI 8 dq), (ad 5, eArr cI 8 kq), (ad 6, eArr cI 2 ai), (ad 13, eArr cI 4 sna), (ad 7, eArr cI 4 wma), (ad 8, eArr cI 32 be), (ad 9, eArr cI 32 va), (ad 10, eArr cI 32 lo), (ad 11, eArr cI 4 spa), (ad 12, eArr cI 4 hea), (ad 20, eArr cI 150 lg'), (ad 21, eArr cI 150 vg')] → va_S A s.heap H locs → ∀ ls : Array Slot, lv_has ls 7 [(5, .int (nI lv)), (4, .int (nI (hitS (hearM cl (fm 0) (ai 0) (sna 0) wd (wma 0) (spa 0) (hea 0) (2 ^ (wma 0) - 1)) wd 0 (absd (spa 0) (hea 0)) (ai 0 * absd (spa 0) (hea 0)) (wma 0)))), (0, .ref rr), (1, .int (nI x)), (2, .int (nI v)), (3, .int (nI 0))] → W p l e (headSpec wsX7_heckle ({ frames := 4, cells := 0, slots := 0, locals := 98 })).room s m ([.ref rr, .int (nI x), .int (nI v), .int (nI 0)] : List Value).toArray below meth c H locs 0 0 (MQ below (va_Qi (fun (r : Int32) ((lg', vg') : (Nat → Nat) × (Nat → Nat)) => r = (nI l0)) (ctB D cI cC (fun ((lg', vg') : (Nat → Nat) × (Nat → Nat)) => [(rr, eMod ad len kp uo tm em pc0), (ad 2, eArr cI 2 fm), (ad 3, eArr cI 8 pq), (ad 4, eArr cI 8 dq), (ad 5, eArr cI 8 kq), (ad 6, eArr cI 2 ai), (ad 13, eArr cI 4 sna), (ad 7, eArr cI 4 wma), (ad 8, eArr cI 32 be), (ad 9, eArr cI 32 va), (ad 10, eArr cI 32 lo), (ad 11, eArr cI 4 spa), (ad 12, eArr cI 4 hea), (ad 20, eArr cI 150 lg'), (ad 21, eArr cI 150 vg')]) A) A) ([.ref rr, .int (nI x), .int (nI v), .int (nI 0)] : List Value).toArray s 0 0 A) (F0 m 69 ls []) := by
          intro nn69
          induction nn69 with
          | zero =>
            intro lv lg' vg' hm25
            exact absurd hm25 (Nat.not_lt_zero _)
          | succ nn69 ih69 =>
            intro lv lg' vg' hm25 hi26 hi27 hi28 H locs hP hD hS ls hl
            refine lv_iload hx hb dX7_heckle_69 (lv_at hl 0 rfl) ?_
            refine lv_bipush (v := (nI 60)) hx hb dX7_heckle_71 (by decide) ?_
            refine x_icmp_gt (tgt := 172) hx hb dX7_heckle_73 (by decide) (by omega) (by omega) (fun h29 => False.elim (by omega)) (fun h29 => ?_)
            refine lv_iload hx hb dX7_heckle_76 (lv_at hl 1 rfl) ?_
            refine x_if_eq (tgt := 172) hx hb dX7_heckle_78 (by decide) (by omega) (fun h30 => ?_) (fun h30 => ?_)
            · exfalso
              first | omega | (have hz : hitS (hearM cl (fm 0) (ai 0) (sna 0) wd (wma 0) (spa 0) (hea 0) (2 ^ (wma 0) - 1)) wd 0 (absd (spa 0) (hea 0)) (ai 0 * absd (spa 0) (hea 0)) (wma 0) = 0 := (by assumption); unfold spoB at htr; rw [hz, Nat.zero_and] at htr; exact absurd htr (by decide))
            · refine lv_iconst (v := (nI 0)) hx hb dX7_heckle_81 (by decide) ?_
              refine lv_istore (lv' := [(6, .int (nI 0)), (5, .int (nI lv)), (4, .int (nI (hitS (hearM cl (fm 0) (ai 0) (sna 0) wd (wma 0) (spa 0) (hea 0) (2 ^ (wma 0) - 1)) wd 0 (absd (spa 0) (hea 0)) (ai 0 * absd (spa 0) (hea 0)) (wma 0)))), (0, .ref rr), (1, .int (nI x)), (2, .int (nI v)), (3, .int (nI 0))]) hx hb dX7_heckle_82 hl (by decide) rfl (fun ls hl => ?_)
              have loop84 : ∀ (nn84 : Nat) (t : Nat) (lg' : Nat → Nat) (vg' : Nat → Nat), 61 - t < nn84 → (t ≤ 61) → (1 ≤ lv ∧ lv ≤ 60) → (lv ≤ l0) → (lv < l0 ∨ t ≤ t0) → ∀ (H : Heap) (locs : List Loc), va_P D vwCl [(rr, eMod ad len kp uo tm em pc0), (ad 2, eArr cI 2 fm), (ad 3, eArr cI 8 pq), (ad 4, eArr cI 8 dq), (ad 5, eArr cI 8 kq), (ad 6, eArr cI 2 ai), (ad 13, eArr cI 4 sna), (ad 7, eArr cI 4 wma), (ad 8, eArr cI 32 be), (ad 9, eArr cI 32 va), (ad 10, eArr cI 32 lo), (ad 11, eArr cI 4 spa), (ad 12, eArr cI 4 hea), (ad 20, eArr cI 150 lg'), (ad 21, eArr cI 150 vg')] H → va_D A [(rr, eMod ad len kp uo tm em pc0), (ad 2, eArr cI 2 fm), (ad 3, eArr cI 8 pq), (ad 4, eArr cI 8 dq), (ad 5, eArr cI 8 kq), (ad 6, eArr cI 2 ai), (ad 13, eArr cI 4 sna), (ad 7, eArr cI 4 wma), (ad 8, eArr cI 32 be), (ad 9, eArr cI 32 va), (ad 10, eArr cI 32 lo), (ad 11, eArr cI 4 spa), (ad 12, eArr cI 4 hea), (ad 20, eArr cI 150 lg'), (ad 21, eArr cI 150 vg')] → va_S A s.heap H locs → ∀ ls : Array Slot, lv_has ls 7 [(6, .int (nI t)), (5, .int (nI lv)), (4, .int (nI (hitS (hearM cl (fm 0) (ai 0) (sna 0) wd (wma 0) (spa 0) (hea 0) (2 ^ (wma 0) - 1)) wd 0 (absd (spa 0) (hea 0)) (ai 0 * absd (spa 0) (hea 0)) (wma 0)))), (0, .ref rr), (1, .int (nI x)), (2, .int (nI v)), (3, .int (nI 0))] → W p l e (headSpec wsX7_heckle ({ frames := 4, cells := 0, slots := 0, locals := 98 })).room s m ([.ref rr, .int (nI x), .int (nI v), .int (nI 0)] : List Value).toArray below meth c H locs 0 0 (MQ below (va_Qi (fun (r : Int32) ((lg', vg') : (Nat → Nat) × (Nat → Nat)) => r = (nI l0)) (ctB D cI cC (fun ((lg', vg') : (Nat → Nat) × (Nat → Nat)) => [(rr, eMod ad len kp uo tm em pc0), (ad 2, eArr cI 2 fm), (ad 3, eArr cI 8 pq), (ad 4, eArr cI 8 dq), (ad 5, eArr cI 8 kq), (ad 6, eArr cI 2 ai), (ad 13, eArr cI 4 sna), (ad 7, eArr cI 4 wma), (ad 8, eArr cI 32 be), (ad 9, eArr cI 32 va), (ad 10, eArr cI 32 lo), (ad 11, eArr cI 4 spa), (ad 12, eArr cI 4 hea), (ad 20, eArr cI 150 lg'), (ad 21, eArr cI 150 vg')]) A) A) ([.ref rr, .int (nI x), .int (nI v), .int (nI 0)] : List Value).toArray s 0 0 A) (F0 m 84 ls []) := by
                intro nn84
                induction nn84 with
                | zero =>
                  intro t lg' vg' hm31
                  exact absurd hm31 (Nat.not_lt_zero _)
                | succ nn84 ih84 =>
                  intro t lg' vg' hm31 hi32 hi33 hi34 hi35 H locs hP hD hS ls hl
                  refine lv_iload hx hb dX7_heckle_84 (lv_at hl 0 rfl) ?_
                  refine lv_bipush (v := (nI 60)) hx hb dX7_heckle_86 (by decide) ?_
                  refine x_icmp_gt (tgt := 166) hx hb dX7_heckle_88 (by decide) (by omega) (by omega) (fun h36 => ?_) (fun h36 => ?_)
                  · refine lv_iinc (v := (nI (lv + 1))) (lv' := [(5, .int (nI (lv + 1))), (6, .int (nI t)), (4, .int (nI (hitS (hearM cl (fm 0) (ai 0) (sna 0) wd (wma 0) (spa 0) (hea 0) (2 ^ (wma 0) - 1)) wd 0 (absd (spa 0) (hea 0)) (ai 0 * absd (spa 0) (hea 0)) (wma 0)))), (0, .ref rr), (1, .int (nI x)), (2, .int (nI v)), (3, .int (nI 0))]) hx hb dX7_heckle_166 hl (k := 1) rfl (nI_inc _ 1) (by decide) rfl (fun ls hl => ?_)
                    refine lv_goto (tgt := 69) hx hb dX7_heckle_169 (by decide) ?_
                    exact ih69 (lv + 1) lg' vg' (by omega) (by omega) (by omega) (by omega) _ _ (hP.sub [0, 1, 2, 3, 4, 5, 6, 7, 8, 9, 10, 11, 12, 13, 14] rfl) (hD.sub [0, 1, 2, 3, 4, 5, 6, 7, 8, 9, 10, 11, 12, 13, 14] rfl rfl) hS _ (lv_sub hl [0, 2, 3, 4, 5, 6] rfl)
                  · refine lv_aload_n hx hb dX7_heckle_91 rfl (lv_at hl 3 rfl) ?_
                    refine lv_aload_n hx hb dX7_heckle_92 rfl (lv_at hl 3 rfl) ?_
                    refine va_get (D := D) (ci := 7) (v := .ref (ad 11)) (C := RX7) (T := TX7) (N := 28) hx hb hts inX7 hown hK hP 0 rfl rfl 11 (by decide) fl40 (fun _ h9 => h9) rfl dX7_heckle_93 ?_
                    refine lv_iconst (v := (nI 0)) hx hb dX7_heckle_96 (by decide) ?_
                    refine x_iald (A := A) hx hb hK hP 11 0 rfl rfl dX7_heckle_97 (by omega) (by omega) ?_
                    refine lv_aload_n hx hb dX7_heckle_98 rfl (lv_at hl 3 rfl) ?_
                    refine va_get (D := D) (ci := 7) (v := .ref (ad 12)) (C := RX7) (T := TX7) (N := 28) hx hb hts inX7 hown hK hP 0 rfl rfl 12 (by decide) fl43 (fun _ h9 => h9) rfl dX7_heckle_99 ?_
                    refine lv_iconst (v := (nI 0)) hx hb dX7_heckle_102 (by decide) ?_
                    refine x_iald (A := A) hx hb hK hP 12 0 rfl rfl dX7_heckle_103 (by omega) (by omega) ?_
                    refine lv_iconst (v := (nI 0)) hx hb dX7_heckle_104 (by decide) ?_
                    refine k_Vv (q := (RX7, TX7, 28)) (ci := 7) (As := [.int (nI (spa 0)), .int (nI (hea 0)), .int (nI 0)]) (wr := [(ad 11, eArr cI 4 spa), (ad 12, eArr cI 4 hea)]) ⟨hx, hb, hml, hown, hts⟩ (c_X7_sayAll l D cI cC rr ad len kp uo tm em pc0 fm pq dq kq ai sna wma be va lo cl hrc hok (by omega) wd hrd hokd (by omega) (spa 0) (hea 0) (by omega) 0 (Nat.two_pow_pos _) lg' vg') (cwV 3 hts gX7_heckle_X7_sayAll rfl rfl rfl (by decide +kernel) ⟨Nat.le_of_ble_eq_true rfl, Nat.le_of_ble_eq_true rfl⟩) rfl hl.1 rfl (Nat.le_of_ble_eq_true rfl) dX7_heckle_105 ⟨Nat.zero_le _, Nat.zero_le _⟩ hN hK hP hD hS hA rfl (q0 := 0) rfl [0, 1, 2, 3, 4, 5, 6, 7, 8, 9, 10, 13, 14] [11, 12] rfl rfl ⟨rfl, rfl, by decide⟩ (fun u H locs w38 hP hD hS => ?_)
                    have hP : va_P D vwCl [(ad 11, eArr cI 4 spa), (ad 12, eArr cI 4 hea), (rr, eMod ad len kp uo tm em pc0), (ad 2, eArr cI 2 fm), (ad 3, eArr cI 8 pq), (ad 4, eArr cI 8 dq), (ad 5, eArr cI 8 kq), (ad 6, eArr cI 2 ai), (ad 13, eArr cI 4 sna), (ad 7, eArr cI 4 wma), (ad 8, eArr cI 32 be), (ad 9, eArr cI 32 va), (ad 10, eArr cI 32 lo), (ad 20, eArr cI 150 ((hearM cl (fm 0) (ai 0) (sna 0) wd (wma 0) (spa 0) (hea 0) (2 ^ (wma 0) - 1)).1)), (ad 21, eArr cI 150 ((hearM cl (fm 0) (ai 0) (sna 0) wd (wma 0) (spa 0) (hea 0) (2 ^ (wma 0) - 1)).2))] H := by rw [show 2 ^ (wma 0) - 1 = 2 ^ (wma 0) - 1 - 0 from rfl]; exact hP
                    have hD : va_D A [(ad 11, eArr cI 4 spa), (ad 12, eArr cI 4 hea), (rr, eMod ad len kp uo tm em pc0), (ad 2, eArr cI 2 fm), (ad 3, eArr cI 8 pq), (ad 4, eArr cI 8 dq), (ad 5, eArr cI 8 kq), (ad 6, eArr cI 2 ai), (ad 13, eArr cI 4 sna), (ad 7, eArr cI 4 wma), (ad 8, eArr cI 32 be), (ad 9, eArr cI 32 va), (ad 10, eArr cI 32 lo), (ad 20, eArr cI 150 ((hearM cl (fm 0) (ai 0) (sna 0) wd (wma 0) (spa 0) (hea 0) (2 ^ (wma 0) - 1)).1)), (ad 21, eArr cI 150 ((hearM cl (fm 0) (ai 0) (sna 0) wd (wma 0) (spa 0) (hea 0) (2 ^ (wma 0) - 1)).2))] := by rw [show 2 ^ (wma 0) - 1 = 2 ^ (wma 0) - 1 - 0 from rfl]; exact hD
                    refine lv_aload_n hx hb dX7_heckle_108 rfl (lv_at hl 3 rfl) ?_
                    refine lv_iload_n hx hb dX7_heckle_109 rfl (lv_at hl 4 rfl) ?_
                    refine lv_iload hx hb dX7_heckle_110 (lv_at hl 0 rfl) ?_
                    refine lv_iload_n hx hb dX7_heckle_112 rfl (lv_at hl 5 rfl) ?_
                    refine lv_iload hx hb dX7_heckle_113 (lv_at hl 1 rfl) ?_
                    refine lv_aload_n hx hb dX7_heckle_115 rfl (lv_at hl 3 rfl) ?_
                    refine va_get (D := D) (ci := 7) (v := .ref (ad 12)) (C := RX7) (T := TX7) (N := 28) hx hb hts inX7 hown hK hP 2 rfl rfl 12 (by decide) fl43 (fun _ h9 => h9) rfl dX7_heckle_116 ?_
                    refine lv_iconst (v := (nI 0)) hx hb dX7_heckle_119 (by decide) ?_
                    refine x_iald (A := A) hx hb hK hP 1 0 rfl rfl dX7_heckle_120 (by omega) (by omega) ?_
                    refine k_Vv (q := (RX7, TX7, 28)) (ci := 7) (As := [.int (nI x), .int (nI t), .int (nI v), .int (nI lv), .int (nI (hea 0))]) (wr := [(ad 11, eArr cI 4 spa), (ad 12, eArr cI 4 hea), (ad 7, eArr cI 4 wma), (ad 8, eArr cI 32 be), (ad 9, eArr cI 32 va), (ad 10, eArr cI 32 lo)]) ⟨hx, hb, hml, hown, hts⟩ (c_X7_say1 l D cI cC rr ad len kp uo tm em pc0 fm pq dq kq ai sna (hearM cl (fm 0) (ai 0) (sna 0) wd (wma 0) (spa 0) (hea 0) (2 ^ (wma 0) - 1)) cl hrc hok (by omega) x t v lv (hea 0) (by omega) (by omega) (okS_play okS_quiet hokd _ (Nat.le_refl _))) (cwV 5 hts gX7_heckle_X7_say1 rfl rfl rfl (by decide +kernel) ⟨Nat.le_of_ble_eq_true rfl, Nat.le_of_ble_eq_true rfl⟩) rfl hl.1 rfl (Nat.le_of_ble_eq_true rfl) dX7_heckle_121 ⟨Nat.zero_le _, Nat.zero_le _⟩ hN hK hP hD hS hA rfl (q0 := 2) rfl [2, 3, 4, 5, 6, 7, 8, 13, 14] [0, 1, 9, 10, 11, 12] rfl rfl ⟨rfl, rfl, by decide⟩ (fun u H locs w40 hP hD hS => ?_)
                    refine lv_iload hx hb dX7_heckle_124 (lv_at hl 2 rfl) ?_
                    refine lv_aload_n hx hb dX7_heckle_126 rfl (lv_at hl 3 rfl) ?_
                    refine lv_aload_n hx hb dX7_heckle_127 rfl (lv_at hl 3 rfl) ?_
                    refine va_get (D := D) (ci := 7) (v := .ref (ad 11)) (C := RX7) (T := TX7) (N := 28) hx hb hts inX7 hown hK hP 6 rfl rfl 11 (by decide) fl40 (fun _ h9 => h9) rfl dX7_heckle_128 ?_
                    refine lv_iconst (v := (nI 0)) hx hb dX7_heckle_131 (by decide) ?_
                    refine x_iald (A := A) hx hb hK hP 0 0 rfl rfl dX7_heckle_132 (by omega) (by omega) ?_
                    refine lv_aload_n hx hb dX7_heckle_133 rfl (lv_at hl 3 rfl) ?_
                    refine va_get (D := D) (ci := 7) (v := .ref (ad 12)) (C := RX7) (T := TX7) (N := 28) hx hb hts inX7 hown hK hP 6 rfl rfl 12 (by decide) fl43 (fun _ h9 => h9) rfl dX7_heckle_134 ?_
                    refine lv_iconst (v := (nI 0)) hx hb dX7_heckle_137 (by decide) ?_
                    refine x_iald (A := A) hx hb hK hP 1 0 rfl rfl dX7_heckle_138 (by omega) (by omega) ?_
                    refine k_V (q := (RX7, TX7, 28)) (ci := 7) (As := [.int (nI (spa 0)), .int (nI (hea 0))]) (wr := [(ad 11, eArr cI 4 spa), (ad 12, eArr cI 4 hea), (ad 2, eArr cI 2 fm), (ad 3, eArr cI 8 pq), (ad 4, eArr cI 8 dq), (ad 5, eArr cI 8 kq), (ad 13, eArr cI 4 sna), (ad 20, eArr cI 150 ((carryM (hearM cl (fm 0) (ai 0) (sna 0) wd (wma 0) (spa 0) (hea 0) (2 ^ (wma 0) - 1)) t v lv (waysM cl (ai 0) (sna 0) x (hea 0) (fm 0))).1))]) ⟨hx, hb, hml, hown, hts⟩ (c_X7_clearOf l D cI cC rr ad len kp uo tm em pc0 ai wma be va lo (carryM (hearM cl (fm 0) (ai 0) (sna 0) wd (wma 0) (spa 0) (hea 0) (2 ^ (wma 0) - 1)) t v lv (waysM cl (ai 0) (sna 0) x (hea 0) (fm 0))) wd hrd hokd (by omega) hfm.2.1 (spa 0) (hea 0) (by omega) (okS_carry (by omega) (by omega) _ _ (okS_play okS_quiet hokd _ (Nat.le_refl _)))) (cwV 2 hts gX7_heckle_X7_clearOf rfl rfl rfl (by decide +kernel) ⟨Nat.le_of_ble_eq_true rfl, Nat.le_of_ble_eq_true rfl⟩) rfl hl.1 rfl (Nat.le_of_ble_eq_true rfl) dX7_heckle_139 ⟨Nat.zero_le _, Nat.zero_le _⟩ hN hK hP hD hS hA rfl (q0 := 6) rfl [6, 11, 2, 3, 4, 5, 14] [0, 1, 7, 8, 9, 10, 12, 13] rfl rfl ⟨rfl, rfl, by decide⟩ (fun r41 u H locs w42 hP hD hS => ?_)
                    obtain rfl : r41 = (nI (hitS (carryM (hearM cl (fm 0) (ai 0) (sna 0) wd (wma 0) (spa 0) (hea 0) (2 ^ (wma 0) - 1)) t v lv (waysM cl (ai 0) (sna 0) x (hea 0) (fm 0))) wd 0 (absd (spa 0) (hea 0)) (ai 0 * absd (spa 0) (hea 0)) (wma 0))) := w42
                    have hh1 : hitS (carryM (hearM cl (fm 0) (ai 0) (sna 0) wd (wma 0) (spa 0) (hea 0) (2 ^ (wma 0) - 1)) t v lv (waysM cl (ai 0) (sna 0) x (hea 0) (fm 0))) wd 0 (absd (spa 0) (hea 0)) (ai 0 * absd (spa 0) (hea 0)) (wma 0) < 256 := Nat.lt_of_lt_of_le (hitS_lt _ _ _ _ _ _) hp8
                    refine lv_iconst (v := (iI (-1))) hx hb dX7_heckle_142 (by decide) ?_
                    refine lv_ixor hx hb dX7_heckle_143 ?_
                    refine lv_iand hx hb dX7_heckle_144 ?_
                    refine x_top (and_not hh0 hh1) ?_
                    have hab : ((hitS (hearM cl (fm 0) (ai 0) (sna 0) wd (wma 0) (spa 0) (hea 0) (2 ^ (wma 0) - 1)) wd 0 (absd (spa 0) (hea 0)) (ai 0 * absd (spa 0) (hea 0)) (wma 0)) &&& (255 - (hitS (carryM (hearM cl (fm 0) (ai 0) (sna 0) wd (wma 0) (spa 0) (hea 0) (2 ^ (wma 0) - 1)) t v lv (waysM cl (ai 0) (sna 0) x (hea 0) (fm 0))) wd 0 (absd (spa 0) (hea 0)) (ai 0 * absd (spa 0) (hea 0)) (wma 0)))) ≤ 255 - (hitS (carryM (hearM cl (fm 0) (ai 0) (sna 0) wd (wma 0) (spa 0) (hea 0) (2 ^ (wma 0) - 1)) t v lv (waysM cl (ai 0) (sna 0) x (hea 0) (fm 0))) wd 0 (absd (spa 0) (hea 0)) (ai 0 * absd (spa 0) (hea 0)) (wma 0)) := Nat.and_le_right
                    refine x_if_eq (tgt := 160) hx hb dX7_heckle_145 (by decide) (by omega) (fun h43 => ?_) (fun h43 => ?_)
                    · have hsp1 : spoB (hearM cl (fm 0) (ai 0) (sna 0) wd (wma 0) (spa 0) (hea 0) (2 ^ (wma 0) - 1)) (hitS (hearM cl (fm 0) (ai 0) (sna 0) wd (wma 0) (spa 0) (hea 0) (2 ^ (wma 0) - 1)) wd 0 (absd (spa 0) (hea 0)) (ai 0 * absd (spa 0) (hea 0)) (wma 0)) wd (wma 0) (absd (spa 0) (hea 0)) (ai 0 * absd (spa 0) (hea 0)) (waysM cl (ai 0) (sna 0) x (hea 0) (fm 0)) v lv t = false := decide_eq_false (by first | assumption | exact fun hh => hh (by assumption))
                      have hne2 : lv < l0 ∨ t < t0 := by apply Classical.byContradiction; intro hc; have e1 : lv = l0 := (by omega); have e2 : t = t0 := (by omega); rw [e1, e2, htr] at hsp1; exact absurd hsp1 (by decide)
                      refine lv_iinc (v := (nI (t + 1))) (lv' := [(6, .int (nI (t + 1))), (5, .int (nI lv)), (4, .int (nI (hitS (hearM cl (fm 0) (ai 0) (sna 0) wd (wma 0) (spa 0) (hea 0) (2 ^ (wma 0) - 1)) wd 0 (absd (spa 0) (hea 0)) (ai 0 * absd (spa 0) (hea 0)) (wma 0)))), (0, .ref rr), (1, .int (nI x)), (2, .int (nI v)), (3, .int (nI 0))]) hx hb dX7_heckle_160 hl (k := 0) rfl (nI_inc _ 1) (by decide) rfl (fun ls hl => ?_)
                      refine lv_goto (tgt := 84) hx hb dX7_heckle_163 (by decide) ?_
                      exact ih84 (t + 1) ((carryM (hearM cl (fm 0) (ai 0) (sna 0) wd (wma 0) (spa 0) (hea 0) (2 ^ (wma 0) - 1)) t v lv (waysM cl (ai 0) (sna 0) x (hea 0) (fm 0))).1) ((carryM (hearM cl (fm 0) (ai 0) (sna 0) wd (wma 0) (spa 0) (hea 0) (2 ^ (wma 0) - 1)) t v lv (waysM cl (ai 0) (sna 0) x (hea 0) (fm 0))).2) (by omega) (by omega) (by omega) (by omega) (by omega) _ _ (hP.sub [8, 2, 3, 4, 5, 9, 6, 10, 11, 12, 13, 0, 1, 7, 14] rfl) (hD.sub [8, 2, 3, 4, 5, 9, 6, 10, 11, 12, 13, 0, 1, 7, 14] rfl rfl) hS _ (lv_sub hl [0, 1, 2, 3, 4, 5, 6] rfl)
                    · have hsp1 : spoB (hearM cl (fm 0) (ai 0) (sna 0) wd (wma 0) (spa 0) (hea 0) (2 ^ (wma 0) - 1)) (hitS (hearM cl (fm 0) (ai 0) (sna 0) wd (wma 0) (spa 0) (hea 0) (2 ^ (wma 0) - 1)) wd 0 (absd (spa 0) (hea 0)) (ai 0 * absd (spa 0) (hea 0)) (wma 0)) wd (wma 0) (absd (spa 0) (hea 0)) (ai 0 * absd (spa 0) (hea 0)) (waysM cl (ai 0) (sna 0) x (hea 0) (fm 0)) v lv t = true := decide_eq_true (by first | assumption | exact fun hh => hh (by assumption))
                      have hll : lv = l0 := by apply Classical.byContradiction; intro hc; exact absurd hsp1 (by rw [hb1 lv (by omega) (by omega) t (by omega)]; decide)
                      have htt : t = t0 := by apply Classical.byContradiction; intro hc; rw [hll] at hsp1; exact absurd hsp1 (by rw [hb2 t (by omega)]; decide)
                      refine lv_iload_n hx hb dX7_heckle_148 rfl (lv_at hl 6 rfl) ?_
                      refine x_if_ne (tgt := 157) hx hb dX7_heckle_149 (by decide) (by omega) (fun h44 => False.elim (by omega)) (fun h44 => ?_)
                      refine lv_iload hx hb dX7_heckle_152 (lv_at hl 1 rfl) ?_
                      refine lv_goto (tgt := 159) hx hb dX7_heckle_154 (by decide) ?_
                      exact x_iret hx hb hr hlocks dX7_heckle_159 rfl (post := fun (r : Int32) ((lg', vg') : (Nat → Nat) × (Nat → Nat)) => r = (nI l0)) (w1 := fun ((lg', vg') : (Nat → Nat) × (Nat → Nat)) => [(rr, eMod ad len kp uo tm em pc0), (ad 2, eArr cI 2 fm), (ad 3, eArr cI 8 pq), (ad 4, eArr cI 8 dq), (ad 5, eArr cI 8 kq), (ad 6, eArr cI 2 ai), (ad 13, eArr cI 4 sna), (ad 7, eArr cI 4 wma), (ad 8, eArr cI 32 be), (ad 9, eArr cI 32 va), (ad 10, eArr cI 32 lo), (ad 11, eArr cI 4 spa), (ad 12, eArr cI 4 hea), (ad 20, eArr cI 150 lg'), (ad 21, eArr cI 150 vg')]) ((carryM (hearM cl (fm 0) (ai 0) (sna 0) wd (wma 0) (spa 0) (hea 0) (2 ^ (wma 0) - 1)) t v lv (waysM cl (ai 0) (sna 0) x (hea 0) (fm 0))).1, (carryM (hearM cl (fm 0) (ai 0) (sna 0) wd (wma 0) (spa 0) (hea 0) (2 ^ (wma 0) - 1)) t v lv (waysM cl (ai 0) (sna 0) x (hea 0) (fm 0))).2) (congrArg nI (by omega)) hK (hP.sub [8, 2, 3, 4, 5, 9, 6, 10, 11, 12, 13, 0, 1, 7, 14] rfl) (hD.sub [8, 2, 3, 4, 5, 9, 6, 10, 11, 12, 13, 0, 1, 7, 14] rfl rfl) hS
              exact loop84 _ 0 lg' vg' (Nat.lt_succ_self _) (by omega) (by omega) (by omega) (by omega) _ _ (hP.sub [0, 1, 2, 3, 4, 5, 6, 7, 8, 9, 10, 11, 12, 13, 14] rfl) (hD.sub [0, 1, 2, 3, 4, 5, 6, 7, 8, 9, 10, 11, 12, 13, 14] rfl rfl) hS _ (lv_sub hl [0, 1, 2, 3, 4, 5, 6] rfl)
        exact loop69 _ 1 ((hearM cl (fm 0) (ai 0) (sna 0) wd (wma 0) (spa 0) (hea 0) (2 ^ (wma 0) - 1)).1) ((hearM cl (fm 0) (ai 0) (sna 0) wd (wma 0) (spa 0) (hea 0) (2 ^ (wma 0) - 1)).2) (Nat.lt_succ_self _) (by omega) (by omega) (by omega) _ _ (hP.sub [8, 2, 3, 4, 5, 9, 6, 10, 11, 12, 13, 0, 1, 7, 14] rfl) (hD.sub [8, 2, 3, 4, 5, 9, 6, 10, 11, 12, 13, 0, 1, 7, 14] rfl rfl) hS _ (lv_sub hl [0, 1, 2, 3, 4, 5] rfl)
      · exact False.elim (by omega)
    · exact False.elim (by omega)
  · exact False.elim (by omega)

set_option maxRecDepth 100000 in
set_option maxHeartbeats 4000000 in
theorem c_X7_heckle_none0 (l : Launch) (D : va_G) (cI cC : ClassId) (rr : Nat) (ad : Nat → Nat) (len : Nat) (kp : Nat) (uo : Nat) (tm : Nat) (em : Nat) (pc0 : Nat) (fm : Nat → Nat) (pq : Nat → Nat) (dq : Nat → Nat) (kq : Nat → Nat) (ai : Nat → Nat) (sna : Nat → Nat) (wma : Nat → Nat) (be : Nat → Nat) (va : Nat → Nat) (lo : Nat → Nat) (spa : Nat → Nat) (hea : Nat → Nat) (lg : Nat → Nat) (vg : Nat → Nat) (cl : Nat → Nat) (hrc : relC pq dq kq cl (fm 0)) (hok : okC cl (fm 0)) (hfm : fm 0 ≤ 4 ∧ ai 0 ≤ 99 ∧ sna 0 < 2147483648) (wd : Nat → Nat) (hrd : relD be va lo wd (wma 0)) (hokd : okD wd (wma 0)) (hnw : wma 0 ≤ 8) (hsp : spa 0 ≤ 40 ∧ hea 0 ≤ 40) (x : Nat) (v : Nat) (hx4 : x ≤ 40 ∧ 1 ≤ v ∧ v ≤ 7) (hb1 : ∀ q, 1 ≤ q → q ≤ 60 → ∀ t, t ≤ 60 → spoB (hearM cl (fm 0) (ai 0) (sna 0) wd (wma 0) (spa 0) (hea 0) (2 ^ (wma 0) - 1)) (hitS (hearM cl (fm 0) (ai 0) (sna 0) wd (wma 0) (spa 0) (hea 0) (2 ^ (wma 0) - 1)) wd 0 (absd (spa 0) (hea 0)) (ai 0 * absd (spa 0) (hea 0)) (wma 0)) wd (wma 0) (absd (spa 0) (hea 0)) (ai 0 * absd (spa 0) (hea 0)) (waysM cl (ai 0) (sna 0) x (hea 0) (fm 0)) v q t = false) : mtI l D cI cC yX7_heckle wsX7_heckle ({ frames := 4, cells := 0, slots := 0, locals := 98 }) [.ref rr, .int (nI x), .int (nI v), .int (nI 0)] [(rr, eMod ad len kp uo tm em pc0), (ad 2, eArr cI 2 fm), (ad 3, eArr cI 8 pq), (ad 4, eArr cI 8 dq), (ad 5, eArr cI 8 kq), (ad 6, eArr cI 2 ai), (ad 13, eArr cI 4 sna), (ad 7, eArr cI 4 wma), (ad 8, eArr cI 32 be), (ad 9, eArr cI 32 va), (ad 10, eArr cI 32 lo), (ad 11, eArr cI 4 spa), (ad 12, eArr cI 4 hea), (ad 20, eArr cI 150 lg), (ad 21, eArr cI 150 vg)] (fun (r : Int32) ((lg', vg') : (Nat → Nat) × (Nat → Nat)) => r = (iI (-4))) (fun ((lg', vg') : (Nat → Nat) × (Nat → Nat)) => [(rr, eMod ad len kp uo tm em pc0), (ad 2, eArr cI 2 fm), (ad 3, eArr cI 8 pq), (ad 4, eArr cI 8 dq), (ad 5, eArr cI 8 kq), (ad 6, eArr cI 2 ai), (ad 13, eArr cI 4 sna), (ad 7, eArr cI 4 wma), (ad 8, eArr cI 32 be), (ad 9, eArr cI 32 va), (ad 10, eArr cI 32 lo), (ad 11, eArr cI 4 spa), (ad 12, eArr cI 4 hea), (ad 20, eArr cI 150 lg'), (ad 21, eArr cI 150 vg')]) := by
  refine mtI_of (cc := cX7_heckle) (maxL := 7) (ret := (some .int)) (by decide) rfl rfl ?_
  intro p e s m below meth c A hx hb hml hr hts hown hlocks hN hA hK hP hD hS ls hl
  have hown : s.vm.findClass RX7 = some m.cls := hown
  have hl : lv_has ls 7 [(0, .ref rr), (1, .int (nI x)), (2, .int (nI v)), (3, .int (nI 0))] := hl
  obtain ⟨H, hHe⟩ : ∃ H, H = s.heap := ⟨_, rfl⟩
  rw [← hHe] at hP ⊢
  have hS : va_S A s.heap H [] := by rw [hHe]; exact va_S.rf
  have fl40 := hts (.fieldLink RX7 40 "EchoPaysRentModel" "speaker" "[I") (by decide +kernel)
  have inX7 : ∀ w ∈ wsX70, w ∈ wsX7_heckle := by decide +kernel
  have fl43 := hts (.fieldLink RX7 43 "EchoPaysRentModel" "hearer" "[I") (by decide +kernel)
  have hnn : fm 0 ≤ 4 ∧ wma 0 ≤ 8 := ⟨hfm.1, hnw⟩
  have hp8 := pow8 hnw
  have f1 : 2 ^ wma 0 ≤ 256 := pow8 hnw
  have f2 : 1 ≤ 2 ^ wma 0 := Nat.one_le_two_pow
  refine lv_iload_n hx hb dX7_heckle_0 rfl (lv_at hl 1 rfl) ?_
  refine k_S (As := [.int (iI (((x : Nat) : Int)))]) (wr := [(rr, eMod ad len kp uo tm em pc0), (ad 2, eArr cI 2 fm), (ad 3, eArr cI 8 pq), (ad 4, eArr cI 8 dq), (ad 5, eArr cI 8 kq), (ad 6, eArr cI 2 ai), (ad 13, eArr cI 4 sna), (ad 7, eArr cI 4 wma), (ad 8, eArr cI 32 be), (ad 9, eArr cI 32 va), (ad 10, eArr cI 32 lo), (ad 11, eArr cI 4 spa), (ad 12, eArr cI 4 hea), (ad 20, eArr cI 150 lg), (ad 21, eArr cI 150 vg)]) ⟨hx, hb, hml, hown, hts⟩ (c_X7_isYard l D cI cC (((x : Nat) : Int)) (by omega)) (cwS 1 hts gX7_heckle_X7_isYard rfl rfl rfl (by decide +kernel) ⟨Nat.le_of_ble_eq_true rfl, Nat.le_of_ble_eq_true rfl⟩) rfl hl.1 (by simp only [nI_iI]; rfl) (Nat.le_of_ble_eq_true rfl) dX7_heckle_1 ⟨Nat.zero_le _, Nat.zero_le _⟩ hN hK hP hD hS hA [] [0, 1, 2, 3, 4, 5, 6, 7, 8, 9, 10, 11, 12, 13, 14] rfl rfl ⟨rfl, rfl, by decide⟩ (fun r3 u H locs w4 hP hD hS => ?_)
  obtain ⟨rfl, h5, h6⟩ | ⟨rfl, h7⟩ : (r3 = (nI 1) ∧ 0 ≤ (((x : Nat) : Int)) ∧ (((x : Nat) : Int)) ≤ 40) ∨ (r3 = (nI 0) ∧ ((((x : Nat) : Int)) < 0 ∨ 40 < (((x : Nat) : Int)))) := w4
  · refine x_if_eq (tgt := 29) hx hb dX7_heckle_4 (by decide) (by omega) (fun h8 => False.elim (by omega)) (fun h8 => ?_)
    refine lv_iload_n hx hb dX7_heckle_7 rfl (lv_at hl 2 rfl) ?_
    refine n_i2l hx hb dX7_heckle_8 (by omega) ?_
    refine lv_lconst (v := lN 1) hx hb dX7_heckle_9 rfl ?_
    refine lv_ldc2 (v := lN 7) hx hb hown (hts (.constantLong RX7 109 7) (by decide +kernel)) dX7_heckle_10 ?_
    refine k_S (As := [.long (lI (((v : Nat) : Int))), .long (lI (((1 : Nat) : Int))), .long (lI (((7 : Nat) : Int)))]) (wr := [(rr, eMod ad len kp uo tm em pc0), (ad 2, eArr cI 2 fm), (ad 3, eArr cI 8 pq), (ad 4, eArr cI 8 dq), (ad 5, eArr cI 8 kq), (ad 6, eArr cI 2 ai), (ad 13, eArr cI 4 sna), (ad 7, eArr cI 4 wma), (ad 8, eArr cI 32 be), (ad 9, eArr cI 32 va), (ad 10, eArr cI 32 lo), (ad 11, eArr cI 4 spa), (ad 12, eArr cI 4 hea), (ad 20, eArr cI 150 lg), (ad 21, eArr cI 150 vg)]) ⟨hx, hb, hml, hown, hts⟩ (c_X7_in l D cI cC (((v : Nat) : Int)) (((1 : Nat) : Int)) (((7 : Nat) : Int)) (by omega) (by omega) (by omega)) (cwS 3 hts gX7_heckle_X7_in rfl rfl rfl (by decide +kernel) ⟨Nat.le_of_ble_eq_true rfl, Nat.le_of_ble_eq_true rfl⟩) rfl hl.1 (by simp only [nI_iI, lN_lI]; rfl) (Nat.le_of_ble_eq_true rfl) dX7_heckle_13 ⟨Nat.zero_le _, Nat.zero_le _⟩ hN hK hP hD hS hA [] [0, 1, 2, 3, 4, 5, 6, 7, 8, 9, 10, 11, 12, 13, 14] rfl rfl ⟨rfl, rfl, by decide⟩ (fun r9 u H locs w10 hP hD hS => ?_)
    obtain ⟨rfl, h11, h12⟩ | ⟨rfl, h13⟩ : (r9 = (nI 1) ∧ (((1 : Nat) : Int)) ≤ (((v : Nat) : Int)) ∧ (((v : Nat) : Int)) ≤ (((7 : Nat) : Int))) ∨ (r9 = (nI 0) ∧ ((((v : Nat) : Int)) < (((1 : Nat) : Int)) ∨ (((7 : Nat) : Int)) < (((v : Nat) : Int)))) := w10
    · refine x_if_eq (tgt := 29) hx hb dX7_heckle_16 (by decide) (by omega) (fun h14 => False.elim (by omega)) (fun h14 => ?_)
      refine lv_iload_n hx hb dX7_heckle_19 rfl (lv_at hl 3 rfl) ?_
      refine n_i2l hx hb dX7_heckle_20 (by omega) ?_
      refine lv_lconst (v := lN 0) hx hb dX7_heckle_21 rfl ?_
      refine lv_lconst (v := lN 1) hx hb dX7_heckle_22 rfl ?_
      refine k_S (As := [.long (lI (((0 : Nat) : Int))), .long (lI (((0 : Nat) : Int))), .long (lI (((1 : Nat) : Int)))]) (wr := [(rr, eMod ad len kp uo tm em pc0), (ad 2, eArr cI 2 fm), (ad 3, eArr cI 8 pq), (ad 4, eArr cI 8 dq), (ad 5, eArr cI 8 kq), (ad 6, eArr cI 2 ai), (ad 13, eArr cI 4 sna), (ad 7, eArr cI 4 wma), (ad 8, eArr cI 32 be), (ad 9, eArr cI 32 va), (ad 10, eArr cI 32 lo), (ad 11, eArr cI 4 spa), (ad 12, eArr cI 4 hea), (ad 20, eArr cI 150 lg), (ad 21, eArr cI 150 vg)]) ⟨hx, hb, hml, hown, hts⟩ (c_X7_in l D cI cC (((0 : Nat) : Int)) (((0 : Nat) : Int)) (((1 : Nat) : Int)) (by omega) (by omega) (by omega)) (cwS 3 hts gX7_heckle_X7_in rfl rfl rfl (by decide +kernel) ⟨Nat.le_of_ble_eq_true rfl, Nat.le_of_ble_eq_true rfl⟩) rfl hl.1 (by simp only [nI_iI, lN_lI]; rfl) (Nat.le_of_ble_eq_true rfl) dX7_heckle_23 ⟨Nat.zero_le _, Nat.zero_le _⟩ hN hK hP hD hS hA [] [0, 1, 2, 3, 4, 5, 6, 7, 8, 9, 10, 11, 12, 13, 14] rfl rfl ⟨rfl, rfl, by decide⟩ (fun r15 u H locs w16 hP hD hS => ?_)
      obtain ⟨rfl, h17, h18⟩ | ⟨rfl, h19⟩ : (r15 = (nI 1) ∧ (((0 : Nat) : Int)) ≤ (((0 : Nat) : Int)) ∧ (((0 : Nat) : Int)) ≤ (((1 : Nat) : Int))) ∨ (r15 = (nI 0) ∧ ((((0 : Nat) : Int)) < (((0 : Nat) : Int)) ∨ (((1 : Nat) : Int)) < (((0 : Nat) : Int)))) := w16
      · refine x_if_ne (tgt := 31) hx hb dX7_heckle_26 (by decide) (by omega) (fun h20 => ?_) (fun h20 => False.elim (by omega))
        refine lv_aload_n hx hb dX7_heckle_31 rfl (lv_at hl 0 rfl) ?_
        refine lv_aload_n hx hb dX7_heckle_32 rfl (lv_at hl 0 rfl) ?_
        refine va_get (D := D) (ci := 7) (v := .ref (ad 11)) (C := RX7) (T := TX7) (N := 28) hx hb hts inX7 hown hK hP 0 rfl rfl 11 (by decide) fl40 (fun _ h9 => h9) rfl dX7_heckle_33 ?_
        refine lv_iconst (v := (nI 0)) hx hb dX7_heckle_36 (by decide) ?_
        refine x_iald (A := A) hx hb hK hP 11 0 rfl rfl dX7_heckle_37 (by omega) (by omega) ?_
        refine lv_aload_n hx hb dX7_heckle_38 rfl (lv_at hl 0 rfl) ?_
        refine va_get (D := D) (ci := 7) (v := .ref (ad 12)) (C := RX7) (T := TX7) (N := 28) hx hb hts inX7 hown hK hP 0 rfl rfl 12 (by decide) fl43 (fun _ h9 => h9) rfl dX7_heckle_39 ?_
        refine lv_iconst (v := (nI 0)) hx hb dX7_heckle_42 (by decide) ?_
        refine x_iald (A := A) hx hb hK hP 12 0 rfl rfl dX7_heckle_43 (by omega) (by omega) ?_
        refine lv_iconst (v := (nI 0)) hx hb dX7_heckle_44 (by decide) ?_
        refine k_Vv (q := (RX7, TX7, 28)) (ci := 7) (As := [.int (nI (spa 0)), .int (nI (hea 0)), .int (nI 0)]) (wr := [(ad 11, eArr cI 4 spa), (ad 12, eArr cI 4 hea)]) ⟨hx, hb, hml, hown, hts⟩ (c_X7_sayAll l D cI cC rr ad len kp uo tm em pc0 fm pq dq kq ai sna wma be va lo cl hrc hok (by omega) wd hrd hokd (by omega) (spa 0) (hea 0) (by omega) 0 (Nat.two_pow_pos _) lg vg) (cwV 3 hts gX7_heckle_X7_sayAll rfl rfl rfl (by decide +kernel) ⟨Nat.le_of_ble_eq_true rfl, Nat.le_of_ble_eq_true rfl⟩) rfl hl.1 rfl (Nat.le_of_ble_eq_true rfl) dX7_heckle_45 ⟨Nat.zero_le _, Nat.zero_le _⟩ hN hK hP hD hS hA rfl (q0 := 0) rfl [0, 1, 2, 3, 4, 5, 6, 7, 8, 9, 10, 13, 14] [11, 12] rfl rfl ⟨rfl, rfl, by decide⟩ (fun u H locs w22 hP hD hS => ?_)
        have hP : va_P D vwCl [(ad 11, eArr cI 4 spa), (ad 12, eArr cI 4 hea), (rr, eMod ad len kp uo tm em pc0), (ad 2, eArr cI 2 fm), (ad 3, eArr cI 8 pq), (ad 4, eArr cI 8 dq), (ad 5, eArr cI 8 kq), (ad 6, eArr cI 2 ai), (ad 13, eArr cI 4 sna), (ad 7, eArr cI 4 wma), (ad 8, eArr cI 32 be), (ad 9, eArr cI 32 va), (ad 10, eArr cI 32 lo), (ad 20, eArr cI 150 ((hearM cl (fm 0) (ai 0) (sna 0) wd (wma 0) (spa 0) (hea 0) (2 ^ (wma 0) - 1)).1)), (ad 21, eArr cI 150 ((hearM cl (fm 0) (ai 0) (sna 0) wd (wma 0) (spa 0) (hea 0) (2 ^ (wma 0) - 1)).2))] H := by rw [show 2 ^ (wma 0) - 1 = 2 ^ (wma 0) - 1 - 0 from rfl]; exact hP
        have hD : va_D A [(ad 11, eArr cI 4 spa), (ad 12, eArr cI 4 hea), (rr, eMod ad len kp uo tm em pc0), (ad 2, eArr cI 2 fm), (ad 3, eArr cI 8 pq), (ad 4, eArr cI 8 dq), (ad 5, eArr cI 8 kq), (ad 6, eArr cI 2 ai), (ad 13, eArr cI 4 sna), (ad 7, eArr cI 4 wma), (ad 8, eArr cI 32 be), (ad 9, eArr cI 32 va), (ad 10, eArr cI 32 lo), (ad 20, eArr cI 150 ((hearM cl (fm 0) (ai 0) (sna 0) wd (wma 0) (spa 0) (hea 0) (2 ^ (wma 0) - 1)).1)), (ad 21, eArr cI 150 ((hearM cl (fm 0) (ai 0) (sna 0) wd (wma 0) (spa 0) (hea 0) (2 ^ (wma 0) - 1)).2))] := by rw [show 2 ^ (wma 0) - 1 = 2 ^ (wma 0) - 1 - 0 from rfl]; exact hD
        refine lv_aload_n hx hb dX7_heckle_48 rfl (lv_at hl 0 rfl) ?_
        refine lv_aload_n hx hb dX7_heckle_49 rfl (lv_at hl 0 rfl) ?_
        refine va_get (D := D) (ci := 7) (v := .ref (ad 11)) (C := RX7) (T := TX7) (N := 28) hx hb hts inX7 hown hK hP 2 rfl rfl 11 (by decide) fl40 (fun _ h9 => h9) rfl dX7_heckle_50 ?_
        refine lv_iconst (v := (nI 0)) hx hb dX7_heckle_53 (by decide) ?_
        refine x_iald (A := A) hx hb hK hP 0 0 rfl rfl dX7_heckle_54 (by omega) (by omega) ?_
        refine lv_aload_n hx hb dX7_heckle_55 rfl (lv_at hl 0 rfl) ?_
        refine va_get (D := D) (ci := 7) (v := .ref (ad 12)) (C := RX7) (T := TX7) (N := 28) hx hb hts inX7 hown hK hP 2 rfl rfl 12 (by decide) fl43 (fun _ h9 => h9) rfl dX7_heckle_56 ?_
        refine lv_iconst (v := (nI 0)) hx hb dX7_heckle_59 (by decide) ?_
        refine x_iald (A := A) hx hb hK hP 1 0 rfl rfl dX7_heckle_60 (by omega) (by omega) ?_
        refine k_V (q := (RX7, TX7, 28)) (ci := 7) (As := [.int (nI (spa 0)), .int (nI (hea 0))]) (wr := [(ad 11, eArr cI 4 spa), (ad 12, eArr cI 4 hea), (ad 2, eArr cI 2 fm), (ad 3, eArr cI 8 pq), (ad 4, eArr cI 8 dq), (ad 5, eArr cI 8 kq), (ad 13, eArr cI 4 sna), (ad 20, eArr cI 150 ((hearM cl (fm 0) (ai 0) (sna 0) wd (wma 0) (spa 0) (hea 0) (2 ^ (wma 0) - 1)).1))]) ⟨hx, hb, hml, hown, hts⟩ (c_X7_clearOf l D cI cC rr ad len kp uo tm em pc0 ai wma be va lo (hearM cl (fm 0) (ai 0) (sna 0) wd (wma 0) (spa 0) (hea 0) (2 ^ (wma 0) - 1)) wd hrd hokd (by omega) hfm.2.1 (spa 0) (hea 0) (by omega) (okS_play okS_quiet hokd _ (Nat.le_refl _))) (cwV 2 hts gX7_heckle_X7_clearOf rfl rfl rfl (by decide +kernel) ⟨Nat.le_of_ble_eq_true rfl, Nat.le_of_ble_eq_true rfl⟩) rfl hl.1 rfl (Nat.le_of_ble_eq_true rfl) dX7_heckle_61 ⟨Nat.zero_le _, Nat.zero_le _⟩ hN hK hP hD hS hA rfl (q0 := 2) rfl [2, 7, 9, 10, 11, 12, 14] [0, 1, 3, 4, 5, 6, 8, 13] rfl rfl ⟨rfl, rfl, by decide⟩ (fun r23 u H locs w24 hP hD hS => ?_)
        obtain rfl : r23 = (nI (hitS (hearM cl (fm 0) (ai 0) (sna 0) wd (wma 0) (spa 0) (hea 0) (2 ^ (wma 0) - 1)) wd 0 (absd (spa 0) (hea 0)) (ai 0 * absd (spa 0) (hea 0)) (wma 0))) := w24
        have hh0 : hitS (hearM cl (fm 0) (ai 0) (sna 0) wd (wma 0) (spa 0) (hea 0) (2 ^ (wma 0) - 1)) wd 0 (absd (spa 0) (hea 0)) (ai 0 * absd (spa 0) (hea 0)) (wma 0) < 256 := Nat.lt_of_lt_of_le (hitS_lt _ _ _ _ _ _) hp8
        refine lv_istore (lv' := [(4, .int (nI (hitS (hearM cl (fm 0) (ai 0) (sna 0) wd (wma 0) (spa 0) (hea 0) (2 ^ (wma 0) - 1)) wd 0 (absd (spa 0) (hea 0)) (ai 0 * absd (spa 0) (hea 0)) (wma 0)))), (0, .ref rr), (1, .int (nI x)), (2, .int (nI v)), (3, .int (nI 0))]) hx hb dX7_heckle_64 hl (by decide) rfl (fun ls hl => ?_)
        refine lv_iconst (v := (nI 1)) hx hb dX7_heckle_66 (by decide) ?_
        refine lv_istore (lv' := [(5, .int (nI 1)), (4, .int (nI (hitS (hearM cl (fm 0) (ai 0) (sna 0) wd (wma 0) (spa 0) (hea 0) (2 ^ (wma 0) - 1)) wd 0 (absd (spa 0) (hea 0)) (ai 0 * absd (spa 0) (hea 0)) (wma 0)))), (0, .ref rr), (1, .int (nI x)), (2, .int (nI v)), (3, .int (nI 0))]) hx hb dX7_heckle_67 hl (by decide) rfl (fun ls hl => ?_)
        have loop69 : ∀ (nn69 : Nat) (lv : Nat) (lg' : Nat → Nat) (vg' : Nat → Nat), 61 - lv < nn69 → (1 ≤ lv) → (lv ≤ 61) → ∀ (H : Heap) (locs : List Loc), va_P D vwCl [(rr, eMod ad len kp uo tm em pc0), (ad 2, eArr cI 2 fm), (ad 3, eArr cI 8 pq), (ad 4, eArr cI 8 dq), (ad 5, eArr cI 8 kq), (ad 6, eArr cI 2 ai), (ad 13, eArr cI 4 sna), (ad 7, eArr cI 4 wma), (ad 8, eArr cI 32 be), (ad 9, eArr cI 32 va), (ad 10, eArr cI 32 lo), (ad 11, eArr cI 4 spa), (ad 12, eArr cI 4 hea), (ad 20, eArr cI 150 lg'), (ad 21, eArr cI 150 vg')] H → va_D A [(rr, eMod ad len kp uo tm em pc0), (ad 2, eArr cI 2 fm), (ad 3, eArr cI 8 pq), (ad 4, eArr cI 8 dq), (ad 5, eArr cI 8 kq), (ad 6, eArr cI 2 ai), (ad 13, eArr cI 4 sna), (ad 7, eArr cI 4 wma), (ad 8, eArr cI 32 be), (ad 9, eArr cI 32 va), (ad 10, eArr cI 32 lo), (ad 11, eArr cI 4 spa), (ad 12, eArr cI 4 hea), (ad 20, eArr cI 150 lg'), (ad 21, eArr cI 150 vg')] → va_S A s.heap H locs → ∀ ls : Array Slot, lv_has ls 7 [(5, .int (nI lv)), (4, .int (nI (hitS (hearM cl (fm 0) (ai 0) (sna 0) wd (wma 0) (spa 0) (hea 0) (2 ^ (wma 0) - 1)) wd 0 (absd (spa 0) (hea 0)) (ai 0 * absd (spa 0) (hea 0)) (wma 0)))), (0, .ref rr), (1, .int (nI x)), (2, .int (nI v)), (3, .int (nI 0))] → W p l e (headSpec wsX7_heckle ({ frames := 4, cells := 0, slots := 0, locals := 98 })).room s m ([.ref rr, .int (nI x), .int (nI v), .int (nI 0)] : List Value).toArray below meth c H locs 0 0 (MQ below (va_Qi (fun (r : Int32) ((lg', vg') : (Nat → Nat) × (Nat → Nat)) => r = (iI (-4))) (ctB D cI cC (fun ((lg', vg') : (Nat → Nat) × (Nat → Nat)) => [(rr, eMod ad len kp uo tm em pc0), (ad 2, eArr cI 2 fm), (ad 3, eArr cI 8 pq), (ad 4, eArr cI 8 dq), (ad 5, eArr cI 8 kq), (ad 6, eArr cI 2 ai), (ad 13, eArr cI 4 sna), (ad 7, eArr cI 4 wma), (ad 8, eArr cI 32 be), (ad 9, eArr cI 32 va), (ad 10, eArr cI 32 lo), (ad 11, eArr cI 4 spa), (ad 12, eArr cI 4 hea), (ad 20, eArr cI 150 lg'), (ad 21, eArr cI 150 vg')]) A) A) ([.ref rr, .int (nI x), .int (nI v), .int (nI 0)] : List Value).toArray s 0 0 A) (F0 m 69 ls []) := by
          intro nn69
          induction nn69 with
          | zero =>
            intro lv lg' vg' hm25
            exact absurd hm25 (Nat.not_lt_zero _)
          | succ nn69 ih69 =>
            intro lv lg' vg' hm25 hi26 hi27 H locs hP hD hS ls hl
            refine lv_iload hx hb dX7_heckle_69 (lv_at hl 0 rfl) ?_
            refine lv_bipush (v := (nI 60)) hx hb dX7_heckle_71 (by decide) ?_
            refine x_icmp_gt (tgt := 172) hx hb dX7_heckle_73 (by decide) (by omega) (by omega) (fun h28 => ?_) (fun h28 => ?_)
            · refine lv_bipush (v := (iI (-4))) hx hb dX7_heckle_172 (by decide) ?_
              exact x_iret hx hb hr hlocks dX7_heckle_174 rfl (post := fun (r : Int32) ((lg', vg') : (Nat → Nat) × (Nat → Nat)) => r = (iI (-4))) (w1 := fun ((lg', vg') : (Nat → Nat) × (Nat → Nat)) => [(rr, eMod ad len kp uo tm em pc0), (ad 2, eArr cI 2 fm), (ad 3, eArr cI 8 pq), (ad 4, eArr cI 8 dq), (ad 5, eArr cI 8 kq), (ad 6, eArr cI 2 ai), (ad 13, eArr cI 4 sna), (ad 7, eArr cI 4 wma), (ad 8, eArr cI 32 be), (ad 9, eArr cI 32 va), (ad 10, eArr cI 32 lo), (ad 11, eArr cI 4 spa), (ad 12, eArr cI 4 hea), (ad 20, eArr cI 150 lg'), (ad 21, eArr cI 150 vg')]) (lg', vg') rfl hK hP hD hS
            · refine lv_iload hx hb dX7_heckle_76 (lv_at hl 1 rfl) ?_
              refine x_if_eq (tgt := 172) hx hb dX7_heckle_78 (by decide) (by omega) (fun h29 => ?_) (fun h29 => ?_)
              · refine lv_bipush (v := (iI (-4))) hx hb dX7_heckle_172 (by decide) ?_
                exact x_iret hx hb hr hlocks dX7_heckle_174 rfl (post := fun (r : Int32) ((lg', vg') : (Nat → Nat) × (Nat → Nat)) => r = (iI (-4))) (w1 := fun ((lg', vg') : (Nat → Nat) × (Nat → Nat)) => [(rr, eMod ad len kp uo tm em pc0), (ad 2, eArr cI 2 fm), (ad 3, eArr cI 8 pq), (ad 4, eArr cI 8 dq), (ad 5, eArr cI 8 kq), (ad 6, eArr cI 2 ai), (ad 13, eArr cI 4 sna), (ad 7, eArr cI 4 wma), (ad 8, eArr cI 32 be), (ad 9, eArr cI 32 va), (ad 10, eArr cI 32 lo), (ad 11, eArr cI 4 spa), (ad 12, eArr cI 4 hea), (ad 20, eArr cI 150 lg'), (ad 21, eArr cI 150 vg')]) (lg', vg') rfl hK hP hD hS
              · refine lv_iconst (v := (nI 0)) hx hb dX7_heckle_81 (by decide) ?_
                refine lv_istore (lv' := [(6, .int (nI 0)), (5, .int (nI lv)), (4, .int (nI (hitS (hearM cl (fm 0) (ai 0) (sna 0) wd (wma 0) (spa 0) (hea 0) (2 ^ (wma 0) - 1)) wd 0 (absd (spa 0) (hea 0)) (ai 0 * absd (spa 0) (hea 0)) (wma 0)))), (0, .ref rr), (1, .int (nI x)), (2, .int (nI v)), (3, .int (nI 0))]) hx hb dX7_heckle_82 hl (by decide) rfl (fun ls hl => ?_)
                have loop84 : ∀ (nn84 : Nat) (t : Nat) (lg' : Nat → Nat) (vg' : Nat → Nat), 61 - t < nn84 → (t ≤ 61) → (1 ≤ lv ∧ lv ≤ 60) → ∀ (H : Heap) (locs : List Loc), va_P D vwCl [(rr, eMod ad len kp uo tm em pc0), (ad 2, eArr cI 2 fm), (ad 3, eArr cI 8 pq), (ad 4, eArr cI 8 dq), (ad 5, eArr cI 8 kq), (ad 6, eArr cI 2 ai), (ad 13, eArr cI 4 sna), (ad 7, eArr cI 4 wma), (ad 8, eArr cI 32 be), (ad 9, eArr cI 32 va), (ad 10, eArr cI 32 lo), (ad 11, eArr cI 4 spa), (ad 12, eArr cI 4 hea), (ad 20, eArr cI 150 lg'), (ad 21, eArr cI 150 vg')] H → va_D A [(rr, eMod ad len kp uo tm em pc0), (ad 2, eArr cI 2 fm), (ad 3, eArr cI 8 pq), (ad 4, eArr cI 8 dq), (ad 5, eArr cI 8 kq), (ad 6, eArr cI 2 ai), (ad 13, eArr cI 4 sna), (ad 7, eArr cI 4 wma), (ad 8, eArr cI 32 be), (ad 9, eArr cI 32 va), (ad 10, eArr cI 32 lo), (ad 11, eArr cI 4 spa), (ad 12, eArr cI 4 hea), (ad 20, eArr cI 150 lg'), (ad 21, eArr cI 150 vg')] → va_S A s.heap H locs → ∀ ls : Array Slot, lv_has ls 7 [(6, .int (nI t)), (5, .int (nI lv)), (4, .int (nI (hitS (hearM cl (fm 0) (ai 0) (sna 0) wd (wma 0) (spa 0) (hea 0) (2 ^ (wma 0) - 1)) wd 0 (absd (spa 0) (hea 0)) (ai 0 * absd (spa 0) (hea 0)) (wma 0)))), (0, .ref rr), (1, .int (nI x)), (2, .int (nI v)), (3, .int (nI 0))] → W p l e (headSpec wsX7_heckle ({ frames := 4, cells := 0, slots := 0, locals := 98 })).room s m ([.ref rr, .int (nI x), .int (nI v), .int (nI 0)] : List Value).toArray below meth c H locs 0 0 (MQ below (va_Qi (fun (r : Int32) ((lg', vg') : (Nat → Nat) × (Nat → Nat)) => r = (iI (-4))) (ctB D cI cC (fun ((lg', vg') : (Nat → Nat) × (Nat → Nat)) => [(rr, eMod ad len kp uo tm em pc0), (ad 2, eArr cI 2 fm), (ad 3, eArr cI 8 pq), (ad 4, eArr cI 8 dq), (ad 5, eArr cI 8 kq), (ad 6, eArr cI 2 ai), (ad 13, eArr cI 4 sna), (ad 7, eArr cI 4 wma), (ad 8, eArr cI 32 be), (ad 9, eArr cI 32 va), (ad 10, eArr cI 32 lo), (ad 11, eArr cI 4 spa), (ad 12, eArr cI 4 hea), (ad 20, eArr cI 150 lg'), (ad 21, eArr cI 150 vg')]) A) A) ([.ref rr, .int (nI x), .int (nI v), .int (nI 0)] : List Value).toArray s 0 0 A) (F0 m 84 ls []) := by
                  intro nn84
                  induction nn84 with
                  | zero =>
                    intro t lg' vg' hm30
                    exact absurd hm30 (Nat.not_lt_zero _)
                  | succ nn84 ih84 =>
                    intro t lg' vg' hm30 hi31 hi32 H locs hP hD hS ls hl
                    refine lv_iload hx hb dX7_heckle_84 (lv_at hl 0 rfl) ?_
                    refine lv_bipush (v := (nI 60)) hx hb dX7_heckle_86 (by decide) ?_
                    refine x_icmp_gt (tgt := 166) hx hb dX7_heckle_88 (by decide) (by omega) (by omega) (fun h33 => ?_) (fun h33 => ?_)
                    · refine lv_iinc (v := (nI (lv + 1))) (lv' := [(5, .int (nI (lv + 1))), (6, .int (nI t)), (4, .int (nI (hitS (hearM cl (fm 0) (ai 0) (sna 0) wd (wma 0) (spa 0) (hea 0) (2 ^ (wma 0) - 1)) wd 0 (absd (spa 0) (hea 0)) (ai 0 * absd (spa 0) (hea 0)) (wma 0)))), (0, .ref rr), (1, .int (nI x)), (2, .int (nI v)), (3, .int (nI 0))]) hx hb dX7_heckle_166 hl (k := 1) rfl (nI_inc _ 1) (by decide) rfl (fun ls hl => ?_)
                      refine lv_goto (tgt := 69) hx hb dX7_heckle_169 (by decide) ?_
                      exact ih69 (lv + 1) lg' vg' (by omega) (by omega) (by omega) _ _ (hP.sub [0, 1, 2, 3, 4, 5, 6, 7, 8, 9, 10, 11, 12, 13, 14] rfl) (hD.sub [0, 1, 2, 3, 4, 5, 6, 7, 8, 9, 10, 11, 12, 13, 14] rfl rfl) hS _ (lv_sub hl [0, 2, 3, 4, 5, 6] rfl)
                    · refine lv_aload_n hx hb dX7_heckle_91 rfl (lv_at hl 3 rfl) ?_
                      refine lv_aload_n hx hb dX7_heckle_92 rfl (lv_at hl 3 rfl) ?_
                      refine va_get (D := D) (ci := 7) (v := .ref (ad 11)) (C := RX7) (T := TX7) (N := 28) hx hb hts inX7 hown hK hP 0 rfl rfl 11 (by decide) fl40 (fun _ h9 => h9) rfl dX7_heckle_93 ?_
                      refine lv_iconst (v := (nI 0)) hx hb dX7_heckle_96 (by decide) ?_
                      refine x_iald (A := A) hx hb hK hP 11 0 rfl rfl dX7_heckle_97 (by omega) (by omega) ?_
                      refine lv_aload_n hx hb dX7_heckle_98 rfl (lv_at hl 3 rfl) ?_
                      refine va_get (D := D) (ci := 7) (v := .ref (ad 12)) (C := RX7) (T := TX7) (N := 28) hx hb hts inX7 hown hK hP 0 rfl rfl 12 (by decide) fl43 (fun _ h9 => h9) rfl dX7_heckle_99 ?_
                      refine lv_iconst (v := (nI 0)) hx hb dX7_heckle_102 (by decide) ?_
                      refine x_iald (A := A) hx hb hK hP 12 0 rfl rfl dX7_heckle_103 (by omega) (by omega) ?_
                      refine lv_iconst (v := (nI 0)) hx hb dX7_heckle_104 (by decide) ?_
                      refine k_Vv (q := (RX7, TX7, 28)) (ci := 7) (As := [.int (nI (spa 0)), .int (nI (hea 0)), .int (nI 0)]) (wr := [(ad 11, eArr cI 4 spa), (ad 12, eArr cI 4 hea)]) ⟨hx, hb, hml, hown, hts⟩ (c_X7_sayAll l D cI cC rr ad len kp uo tm em pc0 fm pq dq kq ai sna wma be va lo cl hrc hok (by omega) wd hrd hokd (by omega) (spa 0) (hea 0) (by omega) 0 (Nat.two_pow_pos _) lg' vg') (cwV 3 hts gX7_heckle_X7_sayAll rfl rfl rfl (by decide +kernel) ⟨Nat.le_of_ble_eq_true rfl, Nat.le_of_ble_eq_true rfl⟩) rfl hl.1 rfl (Nat.le_of_ble_eq_true rfl) dX7_heckle_105 ⟨Nat.zero_le _, Nat.zero_le _⟩ hN hK hP hD hS hA rfl (q0 := 0) rfl [0, 1, 2, 3, 4, 5, 6, 7, 8, 9, 10, 13, 14] [11, 12] rfl rfl ⟨rfl, rfl, by decide⟩ (fun u H locs w35 hP hD hS => ?_)
                      have hP : va_P D vwCl [(ad 11, eArr cI 4 spa), (ad 12, eArr cI 4 hea), (rr, eMod ad len kp uo tm em pc0), (ad 2, eArr cI 2 fm), (ad 3, eArr cI 8 pq), (ad 4, eArr cI 8 dq), (ad 5, eArr cI 8 kq), (ad 6, eArr cI 2 ai), (ad 13, eArr cI 4 sna), (ad 7, eArr cI 4 wma), (ad 8, eArr cI 32 be), (ad 9, eArr cI 32 va), (ad 10, eArr cI 32 lo), (ad 20, eArr cI 150 ((hearM cl (fm 0) (ai 0) (sna 0) wd (wma 0) (spa 0) (hea 0) (2 ^ (wma 0) - 1)).1)), (ad 21, eArr cI 150 ((hearM cl (fm 0) (ai 0) (sna 0) wd (wma 0) (spa 0) (hea 0) (2 ^ (wma 0) - 1)).2))] H := by rw [show 2 ^ (wma 0) - 1 = 2 ^ (wma 0) - 1 - 0 from rfl]; exact hP
                      have hD : va_D A [(ad 11, eArr cI 4 spa), (ad 12, eArr cI 4 hea), (rr, eMod ad len kp uo tm em pc0), (ad 2, eArr cI 2 fm), (ad 3, eArr cI 8 pq), (ad 4, eArr cI 8 dq), (ad 5, eArr cI 8 kq), (ad 6, eArr cI 2 ai), (ad 13, eArr cI 4 sna), (ad 7, eArr cI 4 wma), (ad 8, eArr cI 32 be), (ad 9, eArr cI 32 va), (ad 10, eArr cI 32 lo), (ad 20, eArr cI 150 ((hearM cl (fm 0) (ai 0) (sna 0) wd (wma 0) (spa 0) (hea 0) (2 ^ (wma 0) - 1)).1)), (ad 21, eArr cI 150 ((hearM cl (fm 0) (ai 0) (sna 0) wd (wma 0) (spa 0) (hea 0) (2 ^ (wma 0) - 1)).2))] := by rw [show 2 ^ (wma 0) - 1 = 2 ^ (wma 0) - 1 - 0 from rfl]; exact hD
                      refine lv_aload_n hx hb dX7_heckle_108 rfl (lv_at hl 3 rfl) ?_
                      refine lv_iload_n hx hb dX7_heckle_109 rfl (lv_at hl 4 rfl) ?_
                      refine lv_iload hx hb dX7_heckle_110 (lv_at hl 0 rfl) ?_
                      refine lv_iload_n hx hb dX7_heckle_112 rfl (lv_at hl 5 rfl) ?_
                      refine lv_iload hx hb dX7_heckle_113 (lv_at hl 1 rfl) ?_
                      refine lv_aload_n hx hb dX7_heckle_115 rfl (lv_at hl 3 rfl) ?_
                      refine va_get (D := D) (ci := 7) (v := .ref (ad 12)) (C := RX7) (T := TX7) (N := 28) hx hb hts inX7 hown hK hP 2 rfl rfl 12 (by decide) fl43 (fun _ h9 => h9) rfl dX7_heckle_116 ?_
                      refine lv_iconst (v := (nI 0)) hx hb dX7_heckle_119 (by decide) ?_
                      refine x_iald (A := A) hx hb hK hP 1 0 rfl rfl dX7_heckle_120 (by omega) (by omega) ?_
                      refine k_Vv (q := (RX7, TX7, 28)) (ci := 7) (As := [.int (nI x), .int (nI t), .int (nI v), .int (nI lv), .int (nI (hea 0))]) (wr := [(ad 11, eArr cI 4 spa), (ad 12, eArr cI 4 hea), (ad 7, eArr cI 4 wma), (ad 8, eArr cI 32 be), (ad 9, eArr cI 32 va), (ad 10, eArr cI 32 lo)]) ⟨hx, hb, hml, hown, hts⟩ (c_X7_say1 l D cI cC rr ad len kp uo tm em pc0 fm pq dq kq ai sna (hearM cl (fm 0) (ai 0) (sna 0) wd (wma 0) (spa 0) (hea 0) (2 ^ (wma 0) - 1)) cl hrc hok (by omega) x t v lv (hea 0) (by omega) (by omega) (okS_play okS_quiet hokd _ (Nat.le_refl _))) (cwV 5 hts gX7_heckle_X7_say1 rfl rfl rfl (by decide +kernel) ⟨Nat.le_of_ble_eq_true rfl, Nat.le_of_ble_eq_true rfl⟩) rfl hl.1 rfl (Nat.le_of_ble_eq_true rfl) dX7_heckle_121 ⟨Nat.zero_le _, Nat.zero_le _⟩ hN hK hP hD hS hA rfl (q0 := 2) rfl [2, 3, 4, 5, 6, 7, 8, 13, 14] [0, 1, 9, 10, 11, 12] rfl rfl ⟨rfl, rfl, by decide⟩ (fun u H locs w37 hP hD hS => ?_)
                      refine lv_iload hx hb dX7_heckle_124 (lv_at hl 2 rfl) ?_
                      refine lv_aload_n hx hb dX7_heckle_126 rfl (lv_at hl 3 rfl) ?_
                      refine lv_aload_n hx hb dX7_heckle_127 rfl (lv_at hl 3 rfl) ?_
                      refine va_get (D := D) (ci := 7) (v := .ref (ad 11)) (C := RX7) (T := TX7) (N := 28) hx hb hts inX7 hown hK hP 6 rfl rfl 11 (by decide) fl40 (fun _ h9 => h9) rfl dX7_heckle_128 ?_
                      refine lv_iconst (v := (nI 0)) hx hb dX7_heckle_131 (by decide) ?_
                      refine x_iald (A := A) hx hb hK hP 0 0 rfl rfl dX7_heckle_132 (by omega) (by omega) ?_
                      refine lv_aload_n hx hb dX7_heckle_133 rfl (lv_at hl 3 rfl) ?_
                      refine va_get (D := D) (ci := 7) (v := .ref (ad 12)) (C := RX7) (T := TX7) (N := 28) hx hb hts inX7 hown hK hP 6 rfl rfl 12 (by decide) fl43 (fun _ h9 => h9) rfl dX7_heckle_134 ?_
                      refine lv_iconst (v := (nI 0)) hx hb dX7_heckle_137 (by decide) ?_
                      refine x_iald (A := A) hx hb hK hP 1 0 rfl rfl dX7_heckle_138 (by omega) (by omega) ?_
                      refine k_V (q := (RX7, TX7, 28)) (ci := 7) (As := [.int (nI (spa 0)), .int (nI (hea 0))]) (wr := [(ad 11, eArr cI 4 spa), (ad 12, eArr cI 4 hea), (ad 2, eArr cI 2 fm), (ad 3, eArr cI 8 pq), (ad 4, eArr cI 8 dq), (ad 5, eArr cI 8 kq), (ad 13, eArr cI 4 sna), (ad 20, eArr cI 150 ((carryM (hearM cl (fm 0) (ai 0) (sna 0) wd (wma 0) (spa 0) (hea 0) (2 ^ (wma 0) - 1)) t v lv (waysM cl (ai 0) (sna 0) x (hea 0) (fm 0))).1))]) ⟨hx, hb, hml, hown, hts⟩ (c_X7_clearOf l D cI cC rr ad len kp uo tm em pc0 ai wma be va lo (carryM (hearM cl (fm 0) (ai 0) (sna 0) wd (wma 0) (spa 0) (hea 0) (2 ^ (wma 0) - 1)) t v lv (waysM cl (ai 0) (sna 0) x (hea 0) (fm 0))) wd hrd hokd (by omega) hfm.2.1 (spa 0) (hea 0) (by omega) (okS_carry (by omega) (by omega) _ _ (okS_play okS_quiet hokd _ (Nat.le_refl _)))) (cwV 2 hts gX7_heckle_X7_clearOf rfl rfl rfl (by decide +kernel) ⟨Nat.le_of_ble_eq_true rfl, Nat.le_of_ble_eq_true rfl⟩) rfl hl.1 rfl (Nat.le_of_ble_eq_true rfl) dX7_heckle_139 ⟨Nat.zero_le _, Nat.zero_le _⟩ hN hK hP hD hS hA rfl (q0 := 6) rfl [6, 11, 2, 3, 4, 5, 14] [0, 1, 7, 8, 9, 10, 12, 13] rfl rfl ⟨rfl, rfl, by decide⟩ (fun r38 u H locs w39 hP hD hS => ?_)
                      obtain rfl : r38 = (nI (hitS (carryM (hearM cl (fm 0) (ai 0) (sna 0) wd (wma 0) (spa 0) (hea 0) (2 ^ (wma 0) - 1)) t v lv (waysM cl (ai 0) (sna 0) x (hea 0) (fm 0))) wd 0 (absd (spa 0) (hea 0)) (ai 0 * absd (spa 0) (hea 0)) (wma 0))) := w39
                      have hh1 : hitS (carryM (hearM cl (fm 0) (ai 0) (sna 0) wd (wma 0) (spa 0) (hea 0) (2 ^ (wma 0) - 1)) t v lv (waysM cl (ai 0) (sna 0) x (hea 0) (fm 0))) wd 0 (absd (spa 0) (hea 0)) (ai 0 * absd (spa 0) (hea 0)) (wma 0) < 256 := Nat.lt_of_lt_of_le (hitS_lt _ _ _ _ _ _) hp8
                      refine lv_iconst (v := (iI (-1))) hx hb dX7_heckle_142 (by decide) ?_
                      refine lv_ixor hx hb dX7_heckle_143 ?_
                      refine lv_iand hx hb dX7_heckle_144 ?_
                      refine x_top (and_not hh0 hh1) ?_
                      have hab : ((hitS (hearM cl (fm 0) (ai 0) (sna 0) wd (wma 0) (spa 0) (hea 0) (2 ^ (wma 0) - 1)) wd 0 (absd (spa 0) (hea 0)) (ai 0 * absd (spa 0) (hea 0)) (wma 0)) &&& (255 - (hitS (carryM (hearM cl (fm 0) (ai 0) (sna 0) wd (wma 0) (spa 0) (hea 0) (2 ^ (wma 0) - 1)) t v lv (waysM cl (ai 0) (sna 0) x (hea 0) (fm 0))) wd 0 (absd (spa 0) (hea 0)) (ai 0 * absd (spa 0) (hea 0)) (wma 0)))) ≤ 255 - (hitS (carryM (hearM cl (fm 0) (ai 0) (sna 0) wd (wma 0) (spa 0) (hea 0) (2 ^ (wma 0) - 1)) t v lv (waysM cl (ai 0) (sna 0) x (hea 0) (fm 0))) wd 0 (absd (spa 0) (hea 0)) (ai 0 * absd (spa 0) (hea 0)) (wma 0)) := Nat.and_le_right
                      refine x_if_eq (tgt := 160) hx hb dX7_heckle_145 (by decide) (by omega) (fun h40 => ?_) (fun h40 => ?_)
                      · have hsp1 : spoB (hearM cl (fm 0) (ai 0) (sna 0) wd (wma 0) (spa 0) (hea 0) (2 ^ (wma 0) - 1)) (hitS (hearM cl (fm 0) (ai 0) (sna 0) wd (wma 0) (spa 0) (hea 0) (2 ^ (wma 0) - 1)) wd 0 (absd (spa 0) (hea 0)) (ai 0 * absd (spa 0) (hea 0)) (wma 0)) wd (wma 0) (absd (spa 0) (hea 0)) (ai 0 * absd (spa 0) (hea 0)) (waysM cl (ai 0) (sna 0) x (hea 0) (fm 0)) v lv t = false := decide_eq_false (by first | assumption | exact fun hh => hh (by assumption))
                        refine lv_iinc (v := (nI (t + 1))) (lv' := [(6, .int (nI (t + 1))), (5, .int (nI lv)), (4, .int (nI (hitS (hearM cl (fm 0) (ai 0) (sna 0) wd (wma 0) (spa 0) (hea 0) (2 ^ (wma 0) - 1)) wd 0 (absd (spa 0) (hea 0)) (ai 0 * absd (spa 0) (hea 0)) (wma 0)))), (0, .ref rr), (1, .int (nI x)), (2, .int (nI v)), (3, .int (nI 0))]) hx hb dX7_heckle_160 hl (k := 0) rfl (nI_inc _ 1) (by decide) rfl (fun ls hl => ?_)
                        refine lv_goto (tgt := 84) hx hb dX7_heckle_163 (by decide) ?_
                        exact ih84 (t + 1) ((carryM (hearM cl (fm 0) (ai 0) (sna 0) wd (wma 0) (spa 0) (hea 0) (2 ^ (wma 0) - 1)) t v lv (waysM cl (ai 0) (sna 0) x (hea 0) (fm 0))).1) ((carryM (hearM cl (fm 0) (ai 0) (sna 0) wd (wma 0) (spa 0) (hea 0) (2 ^ (wma 0) - 1)) t v lv (waysM cl (ai 0) (sna 0) x (hea 0) (fm 0))).2) (by omega) (by omega) (by omega) _ _ (hP.sub [8, 2, 3, 4, 5, 9, 6, 10, 11, 12, 13, 0, 1, 7, 14] rfl) (hD.sub [8, 2, 3, 4, 5, 9, 6, 10, 11, 12, 13, 0, 1, 7, 14] rfl rfl) hS _ (lv_sub hl [0, 1, 2, 3, 4, 5, 6] rfl)
                      · have hsp1 : spoB (hearM cl (fm 0) (ai 0) (sna 0) wd (wma 0) (spa 0) (hea 0) (2 ^ (wma 0) - 1)) (hitS (hearM cl (fm 0) (ai 0) (sna 0) wd (wma 0) (spa 0) (hea 0) (2 ^ (wma 0) - 1)) wd 0 (absd (spa 0) (hea 0)) (ai 0 * absd (spa 0) (hea 0)) (wma 0)) wd (wma 0) (absd (spa 0) (hea 0)) (ai 0 * absd (spa 0) (hea 0)) (waysM cl (ai 0) (sna 0) x (hea 0) (fm 0)) v lv t = true := decide_eq_true (by first | assumption | exact fun hh => hh (by assumption))
                        exact absurd hsp1 (by rw [hb1 lv (by omega) (by omega) t (by omega)]; decide)
                exact loop84 _ 0 lg' vg' (Nat.lt_succ_self _) (by omega) (by omega) _ _ (hP.sub [0, 1, 2, 3, 4, 5, 6, 7, 8, 9, 10, 11, 12, 13, 14] rfl) (hD.sub [0, 1, 2, 3, 4, 5, 6, 7, 8, 9, 10, 11, 12, 13, 14] rfl rfl) hS _ (lv_sub hl [0, 1, 2, 3, 4, 5, 6] rfl)
        exact loop69 _ 1 ((hearM cl (fm 0) (ai 0) (sna 0) wd (wma 0) (spa 0) (hea 0) (2 ^ (wma 0) - 1)).1) ((hearM cl (fm 0) (ai 0) (sna 0) wd (wma 0) (spa 0) (hea 0) (2 ^ (wma 0) - 1)).2) (Nat.lt_succ_self _) (by omega) (by omega) _ _ (hP.sub [8, 2, 3, 4, 5, 9, 6, 10, 11, 12, 13, 0, 1, 7, 14] rfl) (hD.sub [8, 2, 3, 4, 5, 9, 6, 10, 11, 12, 13, 0, 1, 7, 14] rfl rfl) hS _ (lv_sub hl [0, 1, 2, 3, 4, 5] rfl)
      · exact False.elim (by omega)
    · exact False.elim (by omega)
  · exact False.elim (by omega)

set_option maxRecDepth 100000 in
set_option maxHeartbeats 4000000 in
theorem c_X7_heckle_some1 (l : Launch) (D : va_G) (cI cC : ClassId) (rr : Nat) (ad : Nat → Nat) (len : Nat) (kp : Nat) (uo : Nat) (tm : Nat) (em : Nat) (pc0 : Nat) (fm : Nat → Nat) (pq : Nat → Nat) (dq : Nat → Nat) (kq : Nat → Nat) (ai : Nat → Nat) (sna : Nat → Nat) (wma : Nat → Nat) (be : Nat → Nat) (va : Nat → Nat) (lo : Nat → Nat) (spa : Nat → Nat) (hea : Nat → Nat) (lg : Nat → Nat) (vg : Nat → Nat) (cl : Nat → Nat) (hrc : relC pq dq kq cl (fm 0)) (hok : okC cl (fm 0)) (hfm : fm 0 ≤ 4 ∧ ai 0 ≤ 99 ∧ sna 0 < 2147483648) (wd : Nat → Nat) (hrd : relD be va lo wd (wma 0)) (hokd : okD wd (wma 0)) (hnw : wma 0 ≤ 8) (hsp : spa 0 ≤ 40 ∧ hea 0 ≤ 40) (x : Nat) (v : Nat) (hx4 : x ≤ 40 ∧ 1 ≤ v ∧ v ≤ 7) (l0 : Nat) (t0 : Nat) (hlt0 : 1 ≤ l0 ∧ l0 ≤ 60 ∧ t0 ≤ 60) (htr : spoB (hearM cl (fm 0) (ai 0) (sna 0) wd (wma 0) (spa 0) (hea 0) (2 ^ (wma 0) - 1)) (hitS (hearM cl (fm 0) (ai 0) (sna 0) wd (wma 0) (spa 0) (hea 0) (2 ^ (wma 0) - 1)) wd 0 (absd (spa 0) (hea 0)) (ai 0 * absd (spa 0) (hea 0)) (wma 0)) wd (wma 0) (absd (spa 0) (hea 0)) (ai 0 * absd (spa 0) (hea 0)) (waysM cl (ai 0) (sna 0) x (hea 0) (fm 0)) v l0 t0 = true) (hb1 : ∀ q, 1 ≤ q → q < l0 → ∀ t, t ≤ 60 → spoB (hearM cl (fm 0) (ai 0) (sna 0) wd (wma 0) (spa 0) (hea 0) (2 ^ (wma 0) - 1)) (hitS (hearM cl (fm 0) (ai 0) (sna 0) wd (wma 0) (spa 0) (hea 0) (2 ^ (wma 0) - 1)) wd 0 (absd (spa 0) (hea 0)) (ai 0 * absd (spa 0) (hea 0)) (wma 0)) wd (wma 0) (absd (spa 0) (hea 0)) (ai 0 * absd (spa 0) (hea 0)) (waysM cl (ai 0) (sna 0) x (hea 0) (fm 0)) v q t = false) (hb2 : ∀ t, t < t0 → spoB (hearM cl (fm 0) (ai 0) (sna 0) wd (wma 0) (spa 0) (hea 0) (2 ^ (wma 0) - 1)) (hitS (hearM cl (fm 0) (ai 0) (sna 0) wd (wma 0) (spa 0) (hea 0) (2 ^ (wma 0) - 1)) wd 0 (absd (spa 0) (hea 0)) (ai 0 * absd (spa 0) (hea 0)) (wma 0)) wd (wma 0) (absd (spa 0) (hea 0)) (ai 0 * absd (spa 0) (hea 0)) (waysM cl (ai 0) (sna 0) x (hea 0) (fm 0)) v l0 t = false) : mtI l D cI cC yX7_heckle wsX7_heckle ({ frames := 4, cells := 0, slots := 0, locals := 98 }) [.ref rr, .int (nI x), .int (nI v), .int (nI 1)] [(rr, eMod ad len kp uo tm em pc0), (ad 2, eArr cI 2 fm), (ad 3, eArr cI 8 pq), (ad 4, eArr cI 8 dq), (ad 5, eArr cI 8 kq), (ad 6, eArr cI 2 ai), (ad 13, eArr cI 4 sna), (ad 7, eArr cI 4 wma), (ad 8, eArr cI 32 be), (ad 9, eArr cI 32 va), (ad 10, eArr cI 32 lo), (ad 11, eArr cI 4 spa), (ad 12, eArr cI 4 hea), (ad 20, eArr cI 150 lg), (ad 21, eArr cI 150 vg)] (fun (r : Int32) ((lg', vg') : (Nat → Nat) × (Nat → Nat)) => r = (nI t0)) (fun ((lg', vg') : (Nat → Nat) × (Nat → Nat)) => [(rr, eMod ad len kp uo tm em pc0), (ad 2, eArr cI 2 fm), (ad 3, eArr cI 8 pq), (ad 4, eArr cI 8 dq), (ad 5, eArr cI 8 kq), (ad 6, eArr cI 2 ai), (ad 13, eArr cI 4 sna), (ad 7, eArr cI 4 wma), (ad 8, eArr cI 32 be), (ad 9, eArr cI 32 va), (ad 10, eArr cI 32 lo), (ad 11, eArr cI 4 spa), (ad 12, eArr cI 4 hea), (ad 20, eArr cI 150 lg'), (ad 21, eArr cI 150 vg')]) := by
  refine mtI_of (cc := cX7_heckle) (maxL := 7) (ret := (some .int)) (by decide) rfl rfl ?_
  intro p e s m below meth c A hx hb hml hr hts hown hlocks hN hA hK hP hD hS ls hl
  have hown : s.vm.findClass RX7 = some m.cls := hown
  have hl : lv_has ls 7 [(0, .ref rr), (1, .int (nI x)), (2, .int (nI v)), (3, .int (nI 1))] := hl
  obtain ⟨H, hHe⟩ : ∃ H, H = s.heap := ⟨_, rfl⟩
  rw [← hHe] at hP ⊢
  have hS : va_S A s.heap H [] := by rw [hHe]; exact va_S.rf
  have fl40 := hts (.fieldLink RX7 40 "EchoPaysRentModel" "speaker" "[I") (by decide +kernel)
  have inX7 : ∀ w ∈ wsX70, w ∈ wsX7_heckle := by decide +kernel
  have fl43 := hts (.fieldLink RX7 43 "EchoPaysRentModel" "hearer" "[I") (by decide +kernel)
  have hnn : fm 0 ≤ 4 ∧ wma 0 ≤ 8 := ⟨hfm.1, hnw⟩
  have hp8 := pow8 hnw
  have f1 : 2 ^ wma 0 ≤ 256 := pow8 hnw
  have f2 : 1 ≤ 2 ^ wma 0 := Nat.one_le_two_pow
  refine lv_iload_n hx hb dX7_heckle_0 rfl (lv_at hl 1 rfl) ?_
  refine k_S (As := [.int (iI (((x : Nat) : Int)))]) (wr := [(rr, eMod ad len kp uo tm em pc0), (ad 2, eArr cI 2 fm), (ad 3, eArr cI 8 pq), (ad 4, eArr cI 8 dq), (ad 5, eArr cI 8 kq), (ad 6, eArr cI 2 ai), (ad 13, eArr cI 4 sna), (ad 7, eArr cI 4 wma), (ad 8, eArr cI 32 be), (ad 9, eArr cI 32 va), (ad 10, eArr cI 32 lo), (ad 11, eArr cI 4 spa), (ad 12, eArr cI 4 hea), (ad 20, eArr cI 150 lg), (ad 21, eArr cI 150 vg)]) ⟨hx, hb, hml, hown, hts⟩ (c_X7_isYard l D cI cC (((x : Nat) : Int)) (by omega)) (cwS 1 hts gX7_heckle_X7_isYard rfl rfl rfl (by decide +kernel) ⟨Nat.le_of_ble_eq_true rfl, Nat.le_of_ble_eq_true rfl⟩) rfl hl.1 (by simp only [nI_iI]; rfl) (Nat.le_of_ble_eq_true rfl) dX7_heckle_1 ⟨Nat.zero_le _, Nat.zero_le _⟩ hN hK hP hD hS hA [] [0, 1, 2, 3, 4, 5, 6, 7, 8, 9, 10, 11, 12, 13, 14] rfl rfl ⟨rfl, rfl, by decide⟩ (fun r3 u H locs w4 hP hD hS => ?_)
  obtain ⟨rfl, h5, h6⟩ | ⟨rfl, h7⟩ : (r3 = (nI 1) ∧ 0 ≤ (((x : Nat) : Int)) ∧ (((x : Nat) : Int)) ≤ 40) ∨ (r3 = (nI 0) ∧ ((((x : Nat) : Int)) < 0 ∨ 40 < (((x : Nat) : Int)))) := w4
  · refine x_if_eq (tgt := 29) hx hb dX7_heckle_4 (by decide) (by omega) (fun h8 => False.elim (by omega)) (fun h8 => ?_)
    refine lv_iload_n hx hb dX7_heckle_7 rfl (lv_at hl 2 rfl) ?_
    refine n_i2l hx hb dX7_heckle_8 (by omega) ?_
    refine lv_lconst (v := lN 1) hx hb dX7_heckle_9 rfl ?_
    refine lv_ldc2 (v := lN 7) hx hb hown (hts (.constantLong RX7 109 7) (by decide +kernel)) dX7_heckle_10 ?_
    refine k_S (As := [.long (lI (((v : Nat) : Int))), .long (lI (((1 : Nat) : Int))), .long (lI (((7 : Nat) : Int)))]) (wr := [(rr, eMod ad len kp uo tm em pc0), (ad 2, eArr cI 2 fm), (ad 3, eArr cI 8 pq), (ad 4, eArr cI 8 dq), (ad 5, eArr cI 8 kq), (ad 6, eArr cI 2 ai), (ad 13, eArr cI 4 sna), (ad 7, eArr cI 4 wma), (ad 8, eArr cI 32 be), (ad 9, eArr cI 32 va), (ad 10, eArr cI 32 lo), (ad 11, eArr cI 4 spa), (ad 12, eArr cI 4 hea), (ad 20, eArr cI 150 lg), (ad 21, eArr cI 150 vg)]) ⟨hx, hb, hml, hown, hts⟩ (c_X7_in l D cI cC (((v : Nat) : Int)) (((1 : Nat) : Int)) (((7 : Nat) : Int)) (by omega) (by omega) (by omega)) (cwS 3 hts gX7_heckle_X7_in rfl rfl rfl (by decide +kernel) ⟨Nat.le_of_ble_eq_true rfl, Nat.le_of_ble_eq_true rfl⟩) rfl hl.1 (by simp only [nI_iI, lN_lI]; rfl) (Nat.le_of_ble_eq_true rfl) dX7_heckle_13 ⟨Nat.zero_le _, Nat.zero_le _⟩ hN hK hP hD hS hA [] [0, 1, 2, 3, 4, 5, 6, 7, 8, 9, 10, 11, 12, 13, 14] rfl rfl ⟨rfl, rfl, by decide⟩ (fun r9 u H locs w10 hP hD hS => ?_)
    obtain ⟨rfl, h11, h12⟩ | ⟨rfl, h13⟩ : (r9 = (nI 1) ∧ (((1 : Nat) : Int)) ≤ (((v : Nat) : Int)) ∧ (((v : Nat) : Int)) ≤ (((7 : Nat) : Int))) ∨ (r9 = (nI 0) ∧ ((((v : Nat) : Int)) < (((1 : Nat) : Int)) ∨ (((7 : Nat) : Int)) < (((v : Nat) : Int)))) := w10
    · refine x_if_eq (tgt := 29) hx hb dX7_heckle_16 (by decide) (by omega) (fun h14 => False.elim (by omega)) (fun h14 => ?_)
      refine lv_iload_n hx hb dX7_heckle_19 rfl (lv_at hl 3 rfl) ?_
      refine n_i2l hx hb dX7_heckle_20 (by omega) ?_
      refine lv_lconst (v := lN 0) hx hb dX7_heckle_21 rfl ?_
      refine lv_lconst (v := lN 1) hx hb dX7_heckle_22 rfl ?_
      refine k_S (As := [.long (lI (((1 : Nat) : Int))), .long (lI (((0 : Nat) : Int))), .long (lI (((1 : Nat) : Int)))]) (wr := [(rr, eMod ad len kp uo tm em pc0), (ad 2, eArr cI 2 fm), (ad 3, eArr cI 8 pq), (ad 4, eArr cI 8 dq), (ad 5, eArr cI 8 kq), (ad 6, eArr cI 2 ai), (ad 13, eArr cI 4 sna), (ad 7, eArr cI 4 wma), (ad 8, eArr cI 32 be), (ad 9, eArr cI 32 va), (ad 10, eArr cI 32 lo), (ad 11, eArr cI 4 spa), (ad 12, eArr cI 4 hea), (ad 20, eArr cI 150 lg), (ad 21, eArr cI 150 vg)]) ⟨hx, hb, hml, hown, hts⟩ (c_X7_in l D cI cC (((1 : Nat) : Int)) (((0 : Nat) : Int)) (((1 : Nat) : Int)) (by omega) (by omega) (by omega)) (cwS 3 hts gX7_heckle_X7_in rfl rfl rfl (by decide +kernel) ⟨Nat.le_of_ble_eq_true rfl, Nat.le_of_ble_eq_true rfl⟩) rfl hl.1 (by simp only [nI_iI, lN_lI]; rfl) (Nat.le_of_ble_eq_true rfl) dX7_heckle_23 ⟨Nat.zero_le _, Nat.zero_le _⟩ hN hK hP hD hS hA [] [0, 1, 2, 3, 4, 5, 6, 7, 8, 9, 10, 11, 12, 13, 14] rfl rfl ⟨rfl, rfl, by decide⟩ (fun r15 u H locs w16 hP hD hS => ?_)
      obtain ⟨rfl, h17, h18⟩ | ⟨rfl, h19⟩ : (r15 = (nI 1) ∧ (((0 : Nat) : Int)) ≤ (((1 : Nat) : Int)) ∧ (((1 : Nat) : Int)) ≤ (((1 : Nat) : Int))) ∨ (r15 = (nI 0) ∧ ((((1 : Nat) : Int)) < (((0 : Nat) : Int)) ∨ (((1 : Nat) : Int)) < (((1 : Nat) : Int)))) := w16
      · refine x_if_ne (tgt := 31) hx hb dX7_heckle_26 (by decide) (by omega) (fun h20 => ?_) (fun h20 => False.elim (by omega))
        refine lv_aload_n hx hb dX7_heckle_31 rfl (lv_at hl 0 rfl) ?_
        refine lv_aload_n hx hb dX7_heckle_32 rfl (lv_at hl 0 rfl) ?_
        refine va_get (D := D) (ci := 7) (v := .ref (ad 11)) (C := RX7) (T := TX7) (N := 28) hx hb hts inX7 hown hK hP 0 rfl rfl 11 (by decide) fl40 (fun _ h9 => h9) rfl dX7_heckle_33 ?_
        refine lv_iconst (v := (nI 0)) hx hb dX7_heckle_36 (by decide) ?_
        refine x_iald (A := A) hx hb hK hP 11 0 rfl rfl dX7_heckle_37 (by omega) (by omega) ?_
        refine lv_aload_n hx hb dX7_heckle_38 rfl (lv_at hl 0 rfl) ?_
        refine va_get (D := D) (ci := 7) (v := .ref (ad 12)) (C := RX7) (T := TX7) (N := 28) hx hb hts inX7 hown hK hP 0 rfl rfl 12 (by decide) fl43 (fun _ h9 => h9) rfl dX7_heckle_39 ?_
        refine lv_iconst (v := (nI 0)) hx hb dX7_heckle_42 (by decide) ?_
        refine x_iald (A := A) hx hb hK hP 12 0 rfl rfl dX7_heckle_43 (by omega) (by omega) ?_
        refine lv_iconst (v := (nI 0)) hx hb dX7_heckle_44 (by decide) ?_
        refine k_Vv (q := (RX7, TX7, 28)) (ci := 7) (As := [.int (nI (spa 0)), .int (nI (hea 0)), .int (nI 0)]) (wr := [(ad 11, eArr cI 4 spa), (ad 12, eArr cI 4 hea)]) ⟨hx, hb, hml, hown, hts⟩ (c_X7_sayAll l D cI cC rr ad len kp uo tm em pc0 fm pq dq kq ai sna wma be va lo cl hrc hok (by omega) wd hrd hokd (by omega) (spa 0) (hea 0) (by omega) 0 (Nat.two_pow_pos _) lg vg) (cwV 3 hts gX7_heckle_X7_sayAll rfl rfl rfl (by decide +kernel) ⟨Nat.le_of_ble_eq_true rfl, Nat.le_of_ble_eq_true rfl⟩) rfl hl.1 rfl (Nat.le_of_ble_eq_true rfl) dX7_heckle_45 ⟨Nat.zero_le _, Nat.zero_le _⟩ hN hK hP hD hS hA rfl (q0 := 0) rfl [0, 1, 2, 3, 4, 5, 6, 7, 8, 9, 10, 13, 14] [11, 12] rfl rfl ⟨rfl, rfl, by decide⟩ (fun u H locs w22 hP hD hS => ?_)
        have hP : va_P D vwCl [(ad 11, eArr cI 4 spa), (ad 12, eArr cI 4 hea), (rr, eMod ad len kp uo tm em pc0), (ad 2, eArr cI 2 fm), (ad 3, eArr cI 8 pq), (ad 4, eArr cI 8 dq), (ad 5, eArr cI 8 kq), (ad 6, eArr cI 2 ai), (ad 13, eArr cI 4 sna), (ad 7, eArr cI 4 wma), (ad 8, eArr cI 32 be), (ad 9, eArr cI 32 va), (ad 10, eArr cI 32 lo), (ad 20, eArr cI 150 ((hearM cl (fm 0) (ai 0) (sna 0) wd (wma 0) (spa 0) (hea 0) (2 ^ (wma 0) - 1)).1)), (ad 21, eArr cI 150 ((hearM cl (fm 0) (ai 0) (sna 0) wd (wma 0) (spa 0) (hea 0) (2 ^ (wma 0) - 1)).2))] H := by rw [show 2 ^ (wma 0) - 1 = 2 ^ (wma 0) - 1 - 0 from rfl]; exact hP
        have hD : va_D A [(ad 11, eArr cI 4 spa), (ad 12, eArr cI 4 hea), (rr, eMod ad len kp uo tm em pc0), (ad 2, eArr cI 2 fm), (ad 3, eArr cI 8 pq), (ad 4, eArr cI 8 dq), (ad 5, eArr cI 8 kq), (ad 6, eArr cI 2 ai), (ad 13, eArr cI 4 sna), (ad 7, eArr cI 4 wma), (ad 8, eArr cI 32 be), (ad 9, eArr cI 32 va), (ad 10, eArr cI 32 lo), (ad 20, eArr cI 150 ((hearM cl (fm 0) (ai 0) (sna 0) wd (wma 0) (spa 0) (hea 0) (2 ^ (wma 0) - 1)).1)), (ad 21, eArr cI 150 ((hearM cl (fm 0) (ai 0) (sna 0) wd (wma 0) (spa 0) (hea 0) (2 ^ (wma 0) - 1)).2))] := by rw [show 2 ^ (wma 0) - 1 = 2 ^ (wma 0) - 1 - 0 from rfl]; exact hD
        refine lv_aload_n hx hb dX7_heckle_48 rfl (lv_at hl 0 rfl) ?_
        refine lv_aload_n hx hb dX7_heckle_49 rfl (lv_at hl 0 rfl) ?_
        refine va_get (D := D) (ci := 7) (v := .ref (ad 11)) (C := RX7) (T := TX7) (N := 28) hx hb hts inX7 hown hK hP 2 rfl rfl 11 (by decide) fl40 (fun _ h9 => h9) rfl dX7_heckle_50 ?_
        refine lv_iconst (v := (nI 0)) hx hb dX7_heckle_53 (by decide) ?_
        refine x_iald (A := A) hx hb hK hP 0 0 rfl rfl dX7_heckle_54 (by omega) (by omega) ?_
        refine lv_aload_n hx hb dX7_heckle_55 rfl (lv_at hl 0 rfl) ?_
        refine va_get (D := D) (ci := 7) (v := .ref (ad 12)) (C := RX7) (T := TX7) (N := 28) hx hb hts inX7 hown hK hP 2 rfl rfl 12 (by decide) fl43 (fun _ h9 => h9) rfl dX7_heckle_56 ?_
        refine lv_iconst (v := (nI 0)) hx hb dX7_heckle_59 (by decide) ?_
        refine x_iald (A := A) hx hb hK hP 1 0 rfl rfl dX7_heckle_60 (by omega) (by omega) ?_
        refine k_V (q := (RX7, TX7, 28)) (ci := 7) (As := [.int (nI (spa 0)), .int (nI (hea 0))]) (wr := [(ad 11, eArr cI 4 spa), (ad 12, eArr cI 4 hea), (ad 2, eArr cI 2 fm), (ad 3, eArr cI 8 pq), (ad 4, eArr cI 8 dq), (ad 5, eArr cI 8 kq), (ad 13, eArr cI 4 sna), (ad 20, eArr cI 150 ((hearM cl (fm 0) (ai 0) (sna 0) wd (wma 0) (spa 0) (hea 0) (2 ^ (wma 0) - 1)).1))]) ⟨hx, hb, hml, hown, hts⟩ (c_X7_clearOf l D cI cC rr ad len kp uo tm em pc0 ai wma be va lo (hearM cl (fm 0) (ai 0) (sna 0) wd (wma 0) (spa 0) (hea 0) (2 ^ (wma 0) - 1)) wd hrd hokd (by omega) hfm.2.1 (spa 0) (hea 0) (by omega) (okS_play okS_quiet hokd _ (Nat.le_refl _))) (cwV 2 hts gX7_heckle_X7_clearOf rfl rfl rfl (by decide +kernel) ⟨Nat.le_of_ble_eq_true rfl, Nat.le_of_ble_eq_true rfl⟩) rfl hl.1 rfl (Nat.le_of_ble_eq_true rfl) dX7_heckle_61 ⟨Nat.zero_le _, Nat.zero_le _⟩ hN hK hP hD hS hA rfl (q0 := 2) rfl [2, 7, 9, 10, 11, 12, 14] [0, 1, 3, 4, 5, 6, 8, 13] rfl rfl ⟨rfl, rfl, by decide⟩ (fun r23 u H locs w24 hP hD hS => ?_)
        obtain rfl : r23 = (nI (hitS (hearM cl (fm 0) (ai 0) (sna 0) wd (wma 0) (spa 0) (hea 0) (2 ^ (wma 0) - 1)) wd 0 (absd (spa 0) (hea 0)) (ai 0 * absd (spa 0) (hea 0)) (wma 0))) := w24
        have hh0 : hitS (hearM cl (fm 0) (ai 0) (sna 0) wd (wma 0) (spa 0) (hea 0) (2 ^ (wma 0) - 1)) wd 0 (absd (spa 0) (hea 0)) (ai 0 * absd (spa 0) (hea 0)) (wma 0) < 256 := Nat.lt_of_lt_of_le (hitS_lt _ _ _ _ _ _) hp8
        refine lv_istore (lv' := [(4, .int (nI (hitS (hearM cl (fm 0) (ai 0) (sna 0) wd (wma 0) (spa 0) (hea 0) (2 ^ (wma 0) - 1)) wd 0 (absd (spa 0) (hea 0)) (ai 0 * absd (spa 0) (hea 0)) (wma 0)))), (0, .ref rr), (1, .int (nI x)), (2, .int (nI v)), (3, .int (nI 1))]) hx hb dX7_heckle_64 hl (by decide) rfl (fun ls hl => ?_)
        refine lv_iconst (v := (nI 1)) hx hb dX7_heckle_66 (by decide) ?_
        refine lv_istore (lv' := [(5, .int (nI 1)), (4, .int (nI (hitS (hearM cl (fm 0) (ai 0) (sna 0) wd (wma 0) (spa 0) (hea 0) (2 ^ (wma 0) - 1)) wd 0 (absd (spa 0) (hea 0)) (ai 0 * absd (spa 0) (hea 0)) (wma 0)))), (0, .ref rr), (1, .int (nI x)), (2, .int (nI v)), (3, .int (nI 1))]) hx hb dX7_heckle_67 hl (by decide) rfl (fun ls hl => ?_)
        have loop69 : ∀ (nn69 : Nat) (lv : Nat) (lg' : Nat → Nat) (vg' : Nat → Nat), 61 - lv < nn69 → (1 ≤ lv) → (lv ≤ 61) → (lv ≤ l0) → ∀ (H : Heap) (locs : List Loc), va_P D vwCl [(rr, eMod ad len kp uo tm em pc0), (ad 2, eArr cI 2 fm), (ad 3, eArr cI 8 pq), (ad 4, eArr cI 8 dq), (ad 5, eArr cI 8 kq), (ad 6, eArr cI 2 ai), (ad 13, eArr cI 4 sna), (ad 7, eArr cI 4 wma), (ad 8, eArr cI 32 be), (ad 9, eArr cI 32 va), (ad 10, eArr cI 32 lo), (ad 11, eArr cI 4 spa), (ad 12, eArr cI 4 hea), (ad 20, eArr cI 150 lg'), (ad 21, eArr cI 150 vg')] H → va_D A [(rr, eMod ad len kp uo tm em pc0), (ad 2, eArr cI 2 fm), (ad 3, eArr cI 8 pq), (ad 4, eArr cI 8 dq), (ad 5, eArr cI 8 kq), (ad 6, eArr cI 2 ai), (ad 13, eArr cI 4 sna), (ad 7, eArr cI 4 wma), (ad 8, eArr cI 32 be), (ad 9, eArr cI 32 va), (ad 10, eArr cI 32 lo), (ad 11, eArr cI 4 spa), (ad 12, eArr cI 4 hea), (ad 20, eArr cI 150 lg'), (ad 21, eArr cI 150 vg')] → va_S A s.heap H locs → ∀ ls : Array Slot, lv_has ls 7 [(5, .int (nI lv)), (4, .int (nI (hitS (hearM cl (fm 0) (ai 0) (sna 0) wd (wma 0) (spa 0) (hea 0) (2 ^ (wma 0) - 1)) wd 0 (absd (spa 0) (hea 0)) (ai 0 * absd (spa 0) (hea 0)) (wma 0)))), (0, .ref rr), (1, .int (nI x)), (2, .int (nI v)), (3, .int (nI 1))] → W p l e (headSpec wsX7_heckle ({ frames := 4, cells := 0, slots := 0, locals := 98 })).room s m ([.ref rr, .int (nI x), .int (nI v), .int (nI 1)] : List Value).toArray below meth c H locs 0 0 (MQ below (va_Qi (fun (r : Int32) ((lg', vg') : (Nat → Nat) × (Nat → Nat)) => r = (nI t0)) (ctB D cI cC (fun ((lg', vg') : (Nat → Nat) × (Nat → Nat)) => [(rr, eMod ad len kp uo tm em pc0), (ad 2, eArr cI 2 fm), (ad 3, eArr cI 8 pq), (ad 4, eArr cI 8 dq), (ad 5, eArr cI 8 kq), (ad 6, eArr cI 2 ai), (ad 13, eArr cI 4 sna), (ad 7, eArr cI 4 wma), (ad 8, eArr cI 32 be), (ad 9, eArr cI 32 va), (ad 10, eArr cI 32 lo), (ad 11, eArr cI 4 spa), (ad 12, eArr cI 4 hea), (ad 20, eArr cI 150 lg'), (ad 21, eArr cI 150 vg')]) A) A) ([.ref rr, .int (nI x), .int (nI v), .int (nI 1)] : List Value).toArray s 0 0 A) (F0 m 69 ls []) := by
          intro nn69
          induction nn69 with
          | zero =>
            intro lv lg' vg' hm25
            exact absurd hm25 (Nat.not_lt_zero _)
          | succ nn69 ih69 =>
            intro lv lg' vg' hm25 hi26 hi27 hi28 H locs hP hD hS ls hl
            refine lv_iload hx hb dX7_heckle_69 (lv_at hl 0 rfl) ?_
            refine lv_bipush (v := (nI 60)) hx hb dX7_heckle_71 (by decide) ?_
            refine x_icmp_gt (tgt := 172) hx hb dX7_heckle_73 (by decide) (by omega) (by omega) (fun h29 => False.elim (by omega)) (fun h29 => ?_)
            refine lv_iload hx hb dX7_heckle_76 (lv_at hl 1 rfl) ?_
            refine x_if_eq (tgt := 172) hx hb dX7_heckle_78 (by decide) (by omega) (fun h30 => ?_) (fun h30 => ?_)
            · exfalso
              first | omega | (have hz : hitS (hearM cl (fm 0) (ai 0) (sna 0) wd (wma 0) (spa 0) (hea 0) (2 ^ (wma 0) - 1)) wd 0 (absd (spa 0) (hea 0)) (ai 0 * absd (spa 0) (hea 0)) (wma 0) = 0 := (by assumption); unfold spoB at htr; rw [hz, Nat.zero_and] at htr; exact absurd htr (by decide))
            · refine lv_iconst (v := (nI 0)) hx hb dX7_heckle_81 (by decide) ?_
              refine lv_istore (lv' := [(6, .int (nI 0)), (5, .int (nI lv)), (4, .int (nI (hitS (hearM cl (fm 0) (ai 0) (sna 0) wd (wma 0) (spa 0) (hea 0) (2 ^ (wma 0) - 1)) wd 0 (absd (spa 0) (hea 0)) (ai 0 * absd (spa 0) (hea 0)) (wma 0)))), (0, .ref rr), (1, .int (nI x)), (2, .int (nI v)), (3, .int (nI 1))]) hx hb dX7_heckle_82 hl (by decide) rfl (fun ls hl => ?_)
              have loop84 : ∀ (nn84 : Nat) (t : Nat) (lg' : Nat → Nat) (vg' : Nat → Nat), 61 - t < nn84 → (t ≤ 61) → (1 ≤ lv ∧ lv ≤ 60) → (lv ≤ l0) → (lv < l0 ∨ t ≤ t0) → ∀ (H : Heap) (locs : List Loc), va_P D vwCl [(rr, eMod ad len kp uo tm em pc0), (ad 2, eArr cI 2 fm), (ad 3, eArr cI 8 pq), (ad 4, eArr cI 8 dq), (ad 5, eArr cI 8 kq), (ad 6, eArr cI 2 ai), (ad 13, eArr cI 4 sna), (ad 7, eArr cI 4 wma), (ad 8, eArr cI 32 be), (ad 9, eArr cI 32 va), (ad 10, eArr cI 32 lo), (ad 11, eArr cI 4 spa), (ad 12, eArr cI 4 hea), (ad 20, eArr cI 150 lg'), (ad 21, eArr cI 150 vg')] H → va_D A [(rr, eMod ad len kp uo tm em pc0), (ad 2, eArr cI 2 fm), (ad 3, eArr cI 8 pq), (ad 4, eArr cI 8 dq), (ad 5, eArr cI 8 kq), (ad 6, eArr cI 2 ai), (ad 13, eArr cI 4 sna), (ad 7, eArr cI 4 wma), (ad 8, eArr cI 32 be), (ad 9, eArr cI 32 va), (ad 10, eArr cI 32 lo), (ad 11, eArr cI 4 spa), (ad 12, eArr cI 4 hea), (ad 20, eArr cI 150 lg'), (ad 21, eArr cI 150 vg')] → va_S A s.heap H locs → ∀ ls : Array Slot, lv_has ls 7 [(6, .int (nI t)), (5, .int (nI lv)), (4, .int (nI (hitS (hearM cl (fm 0) (ai 0) (sna 0) wd (wma 0) (spa 0) (hea 0) (2 ^ (wma 0) - 1)) wd 0 (absd (spa 0) (hea 0)) (ai 0 * absd (spa 0) (hea 0)) (wma 0)))), (0, .ref rr), (1, .int (nI x)), (2, .int (nI v)), (3, .int (nI 1))] → W p l e (headSpec wsX7_heckle ({ frames := 4, cells := 0, slots := 0, locals := 98 })).room s m ([.ref rr, .int (nI x), .int (nI v), .int (nI 1)] : List Value).toArray below meth c H locs 0 0 (MQ below (va_Qi (fun (r : Int32) ((lg', vg') : (Nat → Nat) × (Nat → Nat)) => r = (nI t0)) (ctB D cI cC (fun ((lg', vg') : (Nat → Nat) × (Nat → Nat)) => [(rr, eMod ad len kp uo tm em pc0), (ad 2, eArr cI 2 fm), (ad 3, eArr cI 8 pq), (ad 4, eArr cI 8 dq), (ad 5, eArr cI 8 kq), (ad 6, eArr cI 2 ai), (ad 13, eArr cI 4 sna), (ad 7, eArr cI 4 wma), (ad 8, eArr cI 32 be), (ad 9, eArr cI 32 va), (ad 10, eArr cI 32 lo), (ad 11, eArr cI 4 spa), (ad 12, eArr cI 4 hea), (ad 20, eArr cI 150 lg'), (ad 21, eArr cI 150 vg')]) A) A) ([.ref rr, .int (nI x), .int (nI v), .int (nI 1)] : List Value).toArray s 0 0 A) (F0 m 84 ls []) := by
                intro nn84
                induction nn84 with
                | zero =>
                  intro t lg' vg' hm31
                  exact absurd hm31 (Nat.not_lt_zero _)
                | succ nn84 ih84 =>
                  intro t lg' vg' hm31 hi32 hi33 hi34 hi35 H locs hP hD hS ls hl
                  refine lv_iload hx hb dX7_heckle_84 (lv_at hl 0 rfl) ?_
                  refine lv_bipush (v := (nI 60)) hx hb dX7_heckle_86 (by decide) ?_
                  refine x_icmp_gt (tgt := 166) hx hb dX7_heckle_88 (by decide) (by omega) (by omega) (fun h36 => ?_) (fun h36 => ?_)
                  · refine lv_iinc (v := (nI (lv + 1))) (lv' := [(5, .int (nI (lv + 1))), (6, .int (nI t)), (4, .int (nI (hitS (hearM cl (fm 0) (ai 0) (sna 0) wd (wma 0) (spa 0) (hea 0) (2 ^ (wma 0) - 1)) wd 0 (absd (spa 0) (hea 0)) (ai 0 * absd (spa 0) (hea 0)) (wma 0)))), (0, .ref rr), (1, .int (nI x)), (2, .int (nI v)), (3, .int (nI 1))]) hx hb dX7_heckle_166 hl (k := 1) rfl (nI_inc _ 1) (by decide) rfl (fun ls hl => ?_)
                    refine lv_goto (tgt := 69) hx hb dX7_heckle_169 (by decide) ?_
                    exact ih69 (lv + 1) lg' vg' (by omega) (by omega) (by omega) (by omega) _ _ (hP.sub [0, 1, 2, 3, 4, 5, 6, 7, 8, 9, 10, 11, 12, 13, 14] rfl) (hD.sub [0, 1, 2, 3, 4, 5, 6, 7, 8, 9, 10, 11, 12, 13, 14] rfl rfl) hS _ (lv_sub hl [0, 2, 3, 4, 5, 6] rfl)
                  · refine lv_aload_n hx hb dX7_heckle_91 rfl (lv_at hl 3 rfl) ?_
                    refine lv_aload_n hx hb dX7_heckle_92 rfl (lv_at hl 3 rfl) ?_
                    refine va_get (D := D) (ci := 7) (v := .ref (ad 11)) (C := RX7) (T := TX7) (N := 28) hx hb hts inX7 hown hK hP 0 rfl rfl 11 (by decide) fl40 (fun _ h9 => h9) rfl dX7_heckle_93 ?_
                    refine lv_iconst (v := (nI 0)) hx hb dX7_heckle_96 (by decide) ?_
                    refine x_iald (A := A) hx hb hK hP 11 0 rfl rfl dX7_heckle_97 (by omega) (by omega) ?_
                    refine lv_aload_n hx hb dX7_heckle_98 rfl (lv_at hl 3 rfl) ?_
                    refine va_get (D := D) (ci := 7) (v := .ref (ad 12)) (C := RX7) (T := TX7) (N := 28) hx hb hts inX7 hown hK hP 0 rfl rfl 12 (by decide) fl43 (fun _ h9 => h9) rfl dX7_heckle_99 ?_
                    refine lv_iconst (v := (nI 0)) hx hb dX7_heckle_102 (by decide) ?_
                    refine x_iald (A := A) hx hb hK hP 12 0 rfl rfl dX7_heckle_103 (by omega) (by omega) ?_
                    refine lv_iconst (v := (nI 0)) hx hb dX7_heckle_104 (by decide) ?_
                    refine k_Vv (q := (RX7, TX7, 28)) (ci := 7) (As := [.int (nI (spa 0)), .int (nI (hea 0)), .int (nI 0)]) (wr := [(ad 11, eArr cI 4 spa), (ad 12, eArr cI 4 hea)]) ⟨hx, hb, hml, hown, hts⟩ (c_X7_sayAll l D cI cC rr ad len kp uo tm em pc0 fm pq dq kq ai sna wma be va lo cl hrc hok (by omega) wd hrd hokd (by omega) (spa 0) (hea 0) (by omega) 0 (Nat.two_pow_pos _) lg' vg') (cwV 3 hts gX7_heckle_X7_sayAll rfl rfl rfl (by decide +kernel) ⟨Nat.le_of_ble_eq_true rfl, Nat.le_of_ble_eq_true rfl⟩) rfl hl.1 rfl (Nat.le_of_ble_eq_true rfl) dX7_heckle_105 ⟨Nat.zero_le _, Nat.zero_le _⟩ hN hK hP hD hS hA rfl (q0 := 0) rfl [0, 1, 2, 3, 4, 5, 6, 7, 8, 9, 10, 13, 14] [11, 12] rfl rfl ⟨rfl, rfl, by decide⟩ (fun u H locs w38 hP hD hS => ?_)
                    have hP : va_P D vwCl [(ad 11, eArr cI 4 spa), (ad 12, eArr cI 4 hea), (rr, eMod ad len kp uo tm em pc0), (ad 2, eArr cI 2 fm), (ad 3, eArr cI 8 pq), (ad 4, eArr cI 8 dq), (ad 5, eArr cI 8 kq), (ad 6, eArr cI 2 ai), (ad 13, eArr cI 4 sna), (ad 7, eArr cI 4 wma), (ad 8, eArr cI 32 be), (ad 9, eArr cI 32 va), (ad 10, eArr cI 32 lo), (ad 20, eArr cI 150 ((hearM cl (fm 0) (ai 0) (sna 0) wd (wma 0) (spa 0) (hea 0) (2 ^ (wma 0) - 1)).1)), (ad 21, eArr cI 150 ((hearM cl (fm 0) (ai 0) (sna 0) wd (wma 0) (spa 0) (hea 0) (2 ^ (wma 0) - 1)).2))] H := by rw [show 2 ^ (wma 0) - 1 = 2 ^ (wma 0) - 1 - 0 from rfl]; exact hP
                    have hD : va_D A [(ad 11, eArr cI 4 spa), (ad 12, eArr cI 4 hea), (rr, eMod ad len kp uo tm em pc0), (ad 2, eArr cI 2 fm), (ad 3, eArr cI 8 pq), (ad 4, eArr cI 8 dq), (ad 5, eArr cI 8 kq), (ad 6, eArr cI 2 ai), (ad 13, eArr cI 4 sna), (ad 7, eArr cI 4 wma), (ad 8, eArr cI 32 be), (ad 9, eArr cI 32 va), (ad 10, eArr cI 32 lo), (ad 20, eArr cI 150 ((hearM cl (fm 0) (ai 0) (sna 0) wd (wma 0) (spa 0) (hea 0) (2 ^ (wma 0) - 1)).1)), (ad 21, eArr cI 150 ((hearM cl (fm 0) (ai 0) (sna 0) wd (wma 0) (spa 0) (hea 0) (2 ^ (wma 0) - 1)).2))] := by rw [show 2 ^ (wma 0) - 1 = 2 ^ (wma 0) - 1 - 0 from rfl]; exact hD
                    refine lv_aload_n hx hb dX7_heckle_108 rfl (lv_at hl 3 rfl) ?_
                    refine lv_iload_n hx hb dX7_heckle_109 rfl (lv_at hl 4 rfl) ?_
                    refine lv_iload hx hb dX7_heckle_110 (lv_at hl 0 rfl) ?_
                    refine lv_iload_n hx hb dX7_heckle_112 rfl (lv_at hl 5 rfl) ?_
                    refine lv_iload hx hb dX7_heckle_113 (lv_at hl 1 rfl) ?_
                    refine lv_aload_n hx hb dX7_heckle_115 rfl (lv_at hl 3 rfl) ?_
                    refine va_get (D := D) (ci := 7) (v := .ref (ad 12)) (C := RX7) (T := TX7) (N := 28) hx hb hts inX7 hown hK hP 2 rfl rfl 12 (by decide) fl43 (fun _ h9 => h9) rfl dX7_heckle_116 ?_
                    refine lv_iconst (v := (nI 0)) hx hb dX7_heckle_119 (by decide) ?_
                    refine x_iald (A := A) hx hb hK hP 1 0 rfl rfl dX7_heckle_120 (by omega) (by omega) ?_
                    refine k_Vv (q := (RX7, TX7, 28)) (ci := 7) (As := [.int (nI x), .int (nI t), .int (nI v), .int (nI lv), .int (nI (hea 0))]) (wr := [(ad 11, eArr cI 4 spa), (ad 12, eArr cI 4 hea), (ad 7, eArr cI 4 wma), (ad 8, eArr cI 32 be), (ad 9, eArr cI 32 va), (ad 10, eArr cI 32 lo)]) ⟨hx, hb, hml, hown, hts⟩ (c_X7_say1 l D cI cC rr ad len kp uo tm em pc0 fm pq dq kq ai sna (hearM cl (fm 0) (ai 0) (sna 0) wd (wma 0) (spa 0) (hea 0) (2 ^ (wma 0) - 1)) cl hrc hok (by omega) x t v lv (hea 0) (by omega) (by omega) (okS_play okS_quiet hokd _ (Nat.le_refl _))) (cwV 5 hts gX7_heckle_X7_say1 rfl rfl rfl (by decide +kernel) ⟨Nat.le_of_ble_eq_true rfl, Nat.le_of_ble_eq_true rfl⟩) rfl hl.1 rfl (Nat.le_of_ble_eq_true rfl) dX7_heckle_121 ⟨Nat.zero_le _, Nat.zero_le _⟩ hN hK hP hD hS hA rfl (q0 := 2) rfl [2, 3, 4, 5, 6, 7, 8, 13, 14] [0, 1, 9, 10, 11, 12] rfl rfl ⟨rfl, rfl, by decide⟩ (fun u H locs w40 hP hD hS => ?_)
                    refine lv_iload hx hb dX7_heckle_124 (lv_at hl 2 rfl) ?_
                    refine lv_aload_n hx hb dX7_heckle_126 rfl (lv_at hl 3 rfl) ?_
                    refine lv_aload_n hx hb dX7_heckle_127 rfl (lv_at hl 3 rfl) ?_
                    refine va_get (D := D) (ci := 7) (v := .ref (ad 11)) (C := RX7) (T := TX7) (N := 28) hx hb hts inX7 hown hK hP 6 rfl rfl 11 (by decide) fl40 (fun _ h9 => h9) rfl dX7_heckle_128 ?_
                    refine lv_iconst (v := (nI 0)) hx hb dX7_heckle_131 (by decide) ?_
                    refine x_iald (A := A) hx hb hK hP 0 0 rfl rfl dX7_heckle_132 (by omega) (by omega) ?_
                    refine lv_aload_n hx hb dX7_heckle_133 rfl (lv_at hl 3 rfl) ?_
                    refine va_get (D := D) (ci := 7) (v := .ref (ad 12)) (C := RX7) (T := TX7) (N := 28) hx hb hts inX7 hown hK hP 6 rfl rfl 12 (by decide) fl43 (fun _ h9 => h9) rfl dX7_heckle_134 ?_
                    refine lv_iconst (v := (nI 0)) hx hb dX7_heckle_137 (by decide) ?_
                    refine x_iald (A := A) hx hb hK hP 1 0 rfl rfl dX7_heckle_138 (by omega) (by omega) ?_
                    refine k_V (q := (RX7, TX7, 28)) (ci := 7) (As := [.int (nI (spa 0)), .int (nI (hea 0))]) (wr := [(ad 11, eArr cI 4 spa), (ad 12, eArr cI 4 hea), (ad 2, eArr cI 2 fm), (ad 3, eArr cI 8 pq), (ad 4, eArr cI 8 dq), (ad 5, eArr cI 8 kq), (ad 13, eArr cI 4 sna), (ad 20, eArr cI 150 ((carryM (hearM cl (fm 0) (ai 0) (sna 0) wd (wma 0) (spa 0) (hea 0) (2 ^ (wma 0) - 1)) t v lv (waysM cl (ai 0) (sna 0) x (hea 0) (fm 0))).1))]) ⟨hx, hb, hml, hown, hts⟩ (c_X7_clearOf l D cI cC rr ad len kp uo tm em pc0 ai wma be va lo (carryM (hearM cl (fm 0) (ai 0) (sna 0) wd (wma 0) (spa 0) (hea 0) (2 ^ (wma 0) - 1)) t v lv (waysM cl (ai 0) (sna 0) x (hea 0) (fm 0))) wd hrd hokd (by omega) hfm.2.1 (spa 0) (hea 0) (by omega) (okS_carry (by omega) (by omega) _ _ (okS_play okS_quiet hokd _ (Nat.le_refl _)))) (cwV 2 hts gX7_heckle_X7_clearOf rfl rfl rfl (by decide +kernel) ⟨Nat.le_of_ble_eq_true rfl, Nat.le_of_ble_eq_true rfl⟩) rfl hl.1 rfl (Nat.le_of_ble_eq_true rfl) dX7_heckle_139 ⟨Nat.zero_le _, Nat.zero_le _⟩ hN hK hP hD hS hA rfl (q0 := 6) rfl [6, 11, 2, 3, 4, 5, 14] [0, 1, 7, 8, 9, 10, 12, 13] rfl rfl ⟨rfl, rfl, by decide⟩ (fun r41 u H locs w42 hP hD hS => ?_)
                    obtain rfl : r41 = (nI (hitS (carryM (hearM cl (fm 0) (ai 0) (sna 0) wd (wma 0) (spa 0) (hea 0) (2 ^ (wma 0) - 1)) t v lv (waysM cl (ai 0) (sna 0) x (hea 0) (fm 0))) wd 0 (absd (spa 0) (hea 0)) (ai 0 * absd (spa 0) (hea 0)) (wma 0))) := w42
                    have hh1 : hitS (carryM (hearM cl (fm 0) (ai 0) (sna 0) wd (wma 0) (spa 0) (hea 0) (2 ^ (wma 0) - 1)) t v lv (waysM cl (ai 0) (sna 0) x (hea 0) (fm 0))) wd 0 (absd (spa 0) (hea 0)) (ai 0 * absd (spa 0) (hea 0)) (wma 0) < 256 := Nat.lt_of_lt_of_le (hitS_lt _ _ _ _ _ _) hp8
                    refine lv_iconst (v := (iI (-1))) hx hb dX7_heckle_142 (by decide) ?_
                    refine lv_ixor hx hb dX7_heckle_143 ?_
                    refine lv_iand hx hb dX7_heckle_144 ?_
                    refine x_top (and_not hh0 hh1) ?_
                    have hab : ((hitS (hearM cl (fm 0) (ai 0) (sna 0) wd (wma 0) (spa 0) (hea 0) (2 ^ (wma 0) - 1)) wd 0 (absd (spa 0) (hea 0)) (ai 0 * absd (spa 0) (hea 0)) (wma 0)) &&& (255 - (hitS (carryM (hearM cl (fm 0) (ai 0) (sna 0) wd (wma 0) (spa 0) (hea 0) (2 ^ (wma 0) - 1)) t v lv (waysM cl (ai 0) (sna 0) x (hea 0) (fm 0))) wd 0 (absd (spa 0) (hea 0)) (ai 0 * absd (spa 0) (hea 0)) (wma 0)))) ≤ 255 - (hitS (carryM (hearM cl (fm 0) (ai 0) (sna 0) wd (wma 0) (spa 0) (hea 0) (2 ^ (wma 0) - 1)) t v lv (waysM cl (ai 0) (sna 0) x (hea 0) (fm 0))) wd 0 (absd (spa 0) (hea 0)) (ai 0 * absd (spa 0) (hea 0)) (wma 0)) := Nat.and_le_right
                    refine x_if_eq (tgt := 160) hx hb dX7_heckle_145 (by decide) (by omega) (fun h43 => ?_) (fun h43 => ?_)
                    · have hsp1 : spoB (hearM cl (fm 0) (ai 0) (sna 0) wd (wma 0) (spa 0) (hea 0) (2 ^ (wma 0) - 1)) (hitS (hearM cl (fm 0) (ai 0) (sna 0) wd (wma 0) (spa 0) (hea 0) (2 ^ (wma 0) - 1)) wd 0 (absd (spa 0) (hea 0)) (ai 0 * absd (spa 0) (hea 0)) (wma 0)) wd (wma 0) (absd (spa 0) (hea 0)) (ai 0 * absd (spa 0) (hea 0)) (waysM cl (ai 0) (sna 0) x (hea 0) (fm 0)) v lv t = false := decide_eq_false (by first | assumption | exact fun hh => hh (by assumption))
                      have hne2 : lv < l0 ∨ t < t0 := by apply Classical.byContradiction; intro hc; have e1 : lv = l0 := (by omega); have e2 : t = t0 := (by omega); rw [e1, e2, htr] at hsp1; exact absurd hsp1 (by decide)
                      refine lv_iinc (v := (nI (t + 1))) (lv' := [(6, .int (nI (t + 1))), (5, .int (nI lv)), (4, .int (nI (hitS (hearM cl (fm 0) (ai 0) (sna 0) wd (wma 0) (spa 0) (hea 0) (2 ^ (wma 0) - 1)) wd 0 (absd (spa 0) (hea 0)) (ai 0 * absd (spa 0) (hea 0)) (wma 0)))), (0, .ref rr), (1, .int (nI x)), (2, .int (nI v)), (3, .int (nI 1))]) hx hb dX7_heckle_160 hl (k := 0) rfl (nI_inc _ 1) (by decide) rfl (fun ls hl => ?_)
                      refine lv_goto (tgt := 84) hx hb dX7_heckle_163 (by decide) ?_
                      exact ih84 (t + 1) ((carryM (hearM cl (fm 0) (ai 0) (sna 0) wd (wma 0) (spa 0) (hea 0) (2 ^ (wma 0) - 1)) t v lv (waysM cl (ai 0) (sna 0) x (hea 0) (fm 0))).1) ((carryM (hearM cl (fm 0) (ai 0) (sna 0) wd (wma 0) (spa 0) (hea 0) (2 ^ (wma 0) - 1)) t v lv (waysM cl (ai 0) (sna 0) x (hea 0) (fm 0))).2) (by omega) (by omega) (by omega) (by omega) (by omega) _ _ (hP.sub [8, 2, 3, 4, 5, 9, 6, 10, 11, 12, 13, 0, 1, 7, 14] rfl) (hD.sub [8, 2, 3, 4, 5, 9, 6, 10, 11, 12, 13, 0, 1, 7, 14] rfl rfl) hS _ (lv_sub hl [0, 1, 2, 3, 4, 5, 6] rfl)
                    · have hsp1 : spoB (hearM cl (fm 0) (ai 0) (sna 0) wd (wma 0) (spa 0) (hea 0) (2 ^ (wma 0) - 1)) (hitS (hearM cl (fm 0) (ai 0) (sna 0) wd (wma 0) (spa 0) (hea 0) (2 ^ (wma 0) - 1)) wd 0 (absd (spa 0) (hea 0)) (ai 0 * absd (spa 0) (hea 0)) (wma 0)) wd (wma 0) (absd (spa 0) (hea 0)) (ai 0 * absd (spa 0) (hea 0)) (waysM cl (ai 0) (sna 0) x (hea 0) (fm 0)) v lv t = true := decide_eq_true (by first | assumption | exact fun hh => hh (by assumption))
                      have hll : lv = l0 := by apply Classical.byContradiction; intro hc; exact absurd hsp1 (by rw [hb1 lv (by omega) (by omega) t (by omega)]; decide)
                      have htt : t = t0 := by apply Classical.byContradiction; intro hc; rw [hll] at hsp1; exact absurd hsp1 (by rw [hb2 t (by omega)]; decide)
                      refine lv_iload_n hx hb dX7_heckle_148 rfl (lv_at hl 6 rfl) ?_
                      refine x_if_ne (tgt := 157) hx hb dX7_heckle_149 (by decide) (by omega) (fun h44 => ?_) (fun h44 => False.elim (by omega))
                      refine lv_iload hx hb dX7_heckle_157 (lv_at hl 0 rfl) ?_
                      exact x_iret hx hb hr hlocks dX7_heckle_159 rfl (post := fun (r : Int32) ((lg', vg') : (Nat → Nat) × (Nat → Nat)) => r = (nI t0)) (w1 := fun ((lg', vg') : (Nat → Nat) × (Nat → Nat)) => [(rr, eMod ad len kp uo tm em pc0), (ad 2, eArr cI 2 fm), (ad 3, eArr cI 8 pq), (ad 4, eArr cI 8 dq), (ad 5, eArr cI 8 kq), (ad 6, eArr cI 2 ai), (ad 13, eArr cI 4 sna), (ad 7, eArr cI 4 wma), (ad 8, eArr cI 32 be), (ad 9, eArr cI 32 va), (ad 10, eArr cI 32 lo), (ad 11, eArr cI 4 spa), (ad 12, eArr cI 4 hea), (ad 20, eArr cI 150 lg'), (ad 21, eArr cI 150 vg')]) ((carryM (hearM cl (fm 0) (ai 0) (sna 0) wd (wma 0) (spa 0) (hea 0) (2 ^ (wma 0) - 1)) t v lv (waysM cl (ai 0) (sna 0) x (hea 0) (fm 0))).1, (carryM (hearM cl (fm 0) (ai 0) (sna 0) wd (wma 0) (spa 0) (hea 0) (2 ^ (wma 0) - 1)) t v lv (waysM cl (ai 0) (sna 0) x (hea 0) (fm 0))).2) (congrArg nI (by omega)) hK (hP.sub [8, 2, 3, 4, 5, 9, 6, 10, 11, 12, 13, 0, 1, 7, 14] rfl) (hD.sub [8, 2, 3, 4, 5, 9, 6, 10, 11, 12, 13, 0, 1, 7, 14] rfl rfl) hS
              exact loop84 _ 0 lg' vg' (Nat.lt_succ_self _) (by omega) (by omega) (by omega) (by omega) _ _ (hP.sub [0, 1, 2, 3, 4, 5, 6, 7, 8, 9, 10, 11, 12, 13, 14] rfl) (hD.sub [0, 1, 2, 3, 4, 5, 6, 7, 8, 9, 10, 11, 12, 13, 14] rfl rfl) hS _ (lv_sub hl [0, 1, 2, 3, 4, 5, 6] rfl)
        exact loop69 _ 1 ((hearM cl (fm 0) (ai 0) (sna 0) wd (wma 0) (spa 0) (hea 0) (2 ^ (wma 0) - 1)).1) ((hearM cl (fm 0) (ai 0) (sna 0) wd (wma 0) (spa 0) (hea 0) (2 ^ (wma 0) - 1)).2) (Nat.lt_succ_self _) (by omega) (by omega) (by omega) _ _ (hP.sub [8, 2, 3, 4, 5, 9, 6, 10, 11, 12, 13, 0, 1, 7, 14] rfl) (hD.sub [8, 2, 3, 4, 5, 9, 6, 10, 11, 12, 13, 0, 1, 7, 14] rfl rfl) hS _ (lv_sub hl [0, 1, 2, 3, 4, 5] rfl)
      · exact False.elim (by omega)
    · exact False.elim (by omega)
  · exact False.elim (by omega)

set_option maxRecDepth 100000 in
set_option maxHeartbeats 4000000 in
theorem c_X7_heckle_none1 (l : Launch) (D : va_G) (cI cC : ClassId) (rr : Nat) (ad : Nat → Nat) (len : Nat) (kp : Nat) (uo : Nat) (tm : Nat) (em : Nat) (pc0 : Nat) (fm : Nat → Nat) (pq : Nat → Nat) (dq : Nat → Nat) (kq : Nat → Nat) (ai : Nat → Nat) (sna : Nat → Nat) (wma : Nat → Nat) (be : Nat → Nat) (va : Nat → Nat) (lo : Nat → Nat) (spa : Nat → Nat) (hea : Nat → Nat) (lg : Nat → Nat) (vg : Nat → Nat) (cl : Nat → Nat) (hrc : relC pq dq kq cl (fm 0)) (hok : okC cl (fm 0)) (hfm : fm 0 ≤ 4 ∧ ai 0 ≤ 99 ∧ sna 0 < 2147483648) (wd : Nat → Nat) (hrd : relD be va lo wd (wma 0)) (hokd : okD wd (wma 0)) (hnw : wma 0 ≤ 8) (hsp : spa 0 ≤ 40 ∧ hea 0 ≤ 40) (x : Nat) (v : Nat) (hx4 : x ≤ 40 ∧ 1 ≤ v ∧ v ≤ 7) (hb1 : ∀ q, 1 ≤ q → q ≤ 60 → ∀ t, t ≤ 60 → spoB (hearM cl (fm 0) (ai 0) (sna 0) wd (wma 0) (spa 0) (hea 0) (2 ^ (wma 0) - 1)) (hitS (hearM cl (fm 0) (ai 0) (sna 0) wd (wma 0) (spa 0) (hea 0) (2 ^ (wma 0) - 1)) wd 0 (absd (spa 0) (hea 0)) (ai 0 * absd (spa 0) (hea 0)) (wma 0)) wd (wma 0) (absd (spa 0) (hea 0)) (ai 0 * absd (spa 0) (hea 0)) (waysM cl (ai 0) (sna 0) x (hea 0) (fm 0)) v q t = false) : mtI l D cI cC yX7_heckle wsX7_heckle ({ frames := 4, cells := 0, slots := 0, locals := 98 }) [.ref rr, .int (nI x), .int (nI v), .int (nI 1)] [(rr, eMod ad len kp uo tm em pc0), (ad 2, eArr cI 2 fm), (ad 3, eArr cI 8 pq), (ad 4, eArr cI 8 dq), (ad 5, eArr cI 8 kq), (ad 6, eArr cI 2 ai), (ad 13, eArr cI 4 sna), (ad 7, eArr cI 4 wma), (ad 8, eArr cI 32 be), (ad 9, eArr cI 32 va), (ad 10, eArr cI 32 lo), (ad 11, eArr cI 4 spa), (ad 12, eArr cI 4 hea), (ad 20, eArr cI 150 lg), (ad 21, eArr cI 150 vg)] (fun (r : Int32) ((lg', vg') : (Nat → Nat) × (Nat → Nat)) => r = (iI (-4))) (fun ((lg', vg') : (Nat → Nat) × (Nat → Nat)) => [(rr, eMod ad len kp uo tm em pc0), (ad 2, eArr cI 2 fm), (ad 3, eArr cI 8 pq), (ad 4, eArr cI 8 dq), (ad 5, eArr cI 8 kq), (ad 6, eArr cI 2 ai), (ad 13, eArr cI 4 sna), (ad 7, eArr cI 4 wma), (ad 8, eArr cI 32 be), (ad 9, eArr cI 32 va), (ad 10, eArr cI 32 lo), (ad 11, eArr cI 4 spa), (ad 12, eArr cI 4 hea), (ad 20, eArr cI 150 lg'), (ad 21, eArr cI 150 vg')]) := by
  refine mtI_of (cc := cX7_heckle) (maxL := 7) (ret := (some .int)) (by decide) rfl rfl ?_
  intro p e s m below meth c A hx hb hml hr hts hown hlocks hN hA hK hP hD hS ls hl
  have hown : s.vm.findClass RX7 = some m.cls := hown
  have hl : lv_has ls 7 [(0, .ref rr), (1, .int (nI x)), (2, .int (nI v)), (3, .int (nI 1))] := hl
  obtain ⟨H, hHe⟩ : ∃ H, H = s.heap := ⟨_, rfl⟩
  rw [← hHe] at hP ⊢
  have hS : va_S A s.heap H [] := by rw [hHe]; exact va_S.rf
  have fl40 := hts (.fieldLink RX7 40 "EchoPaysRentModel" "speaker" "[I") (by decide +kernel)
  have inX7 : ∀ w ∈ wsX70, w ∈ wsX7_heckle := by decide +kernel
  have fl43 := hts (.fieldLink RX7 43 "EchoPaysRentModel" "hearer" "[I") (by decide +kernel)
  have hnn : fm 0 ≤ 4 ∧ wma 0 ≤ 8 := ⟨hfm.1, hnw⟩
  have hp8 := pow8 hnw
  have f1 : 2 ^ wma 0 ≤ 256 := pow8 hnw
  have f2 : 1 ≤ 2 ^ wma 0 := Nat.one_le_two_pow
  refine lv_iload_n hx hb dX7_heckle_0 rfl (lv_at hl 1 rfl) ?_
  refine k_S (As := [.int (iI (((x : Nat) : Int)))]) (wr := [(rr, eMod ad len kp uo tm em pc0), (ad 2, eArr cI 2 fm), (ad 3, eArr cI 8 pq), (ad 4, eArr cI 8 dq), (ad 5, eArr cI 8 kq), (ad 6, eArr cI 2 ai), (ad 13, eArr cI 4 sna), (ad 7, eArr cI 4 wma), (ad 8, eArr cI 32 be), (ad 9, eArr cI 32 va), (ad 10, eArr cI 32 lo), (ad 11, eArr cI 4 spa), (ad 12, eArr cI 4 hea), (ad 20, eArr cI 150 lg), (ad 21, eArr cI 150 vg)]) ⟨hx, hb, hml, hown, hts⟩ (c_X7_isYard l D cI cC (((x : Nat) : Int)) (by omega)) (cwS 1 hts gX7_heckle_X7_isYard rfl rfl rfl (by decide +kernel) ⟨Nat.le_of_ble_eq_true rfl, Nat.le_of_ble_eq_true rfl⟩) rfl hl.1 (by simp only [nI_iI]; rfl) (Nat.le_of_ble_eq_true rfl) dX7_heckle_1 ⟨Nat.zero_le _, Nat.zero_le _⟩ hN hK hP hD hS hA [] [0, 1, 2, 3, 4, 5, 6, 7, 8, 9, 10, 11, 12, 13, 14] rfl rfl ⟨rfl, rfl, by decide⟩ (fun r3 u H locs w4 hP hD hS => ?_)
  obtain ⟨rfl, h5, h6⟩ | ⟨rfl, h7⟩ : (r3 = (nI 1) ∧ 0 ≤ (((x : Nat) : Int)) ∧ (((x : Nat) : Int)) ≤ 40) ∨ (r3 = (nI 0) ∧ ((((x : Nat) : Int)) < 0 ∨ 40 < (((x : Nat) : Int)))) := w4
  · refine x_if_eq (tgt := 29) hx hb dX7_heckle_4 (by decide) (by omega) (fun h8 => False.elim (by omega)) (fun h8 => ?_)
    refine lv_iload_n hx hb dX7_heckle_7 rfl (lv_at hl 2 rfl) ?_
    refine n_i2l hx hb dX7_heckle_8 (by omega) ?_
    refine lv_lconst (v := lN 1) hx hb dX7_heckle_9 rfl ?_
    refine lv_ldc2 (v := lN 7) hx hb hown (hts (.constantLong RX7 109 7) (by decide +kernel)) dX7_heckle_10 ?_
    refine k_S (As := [.long (lI (((v : Nat) : Int))), .long (lI (((1 : Nat) : Int))), .long (lI (((7 : Nat) : Int)))]) (wr := [(rr, eMod ad len kp uo tm em pc0), (ad 2, eArr cI 2 fm), (ad 3, eArr cI 8 pq), (ad 4, eArr cI 8 dq), (ad 5, eArr cI 8 kq), (ad 6, eArr cI 2 ai), (ad 13, eArr cI 4 sna), (ad 7, eArr cI 4 wma), (ad 8, eArr cI 32 be), (ad 9, eArr cI 32 va), (ad 10, eArr cI 32 lo), (ad 11, eArr cI 4 spa), (ad 12, eArr cI 4 hea), (ad 20, eArr cI 150 lg), (ad 21, eArr cI 150 vg)]) ⟨hx, hb, hml, hown, hts⟩ (c_X7_in l D cI cC (((v : Nat) : Int)) (((1 : Nat) : Int)) (((7 : Nat) : Int)) (by omega) (by omega) (by omega)) (cwS 3 hts gX7_heckle_X7_in rfl rfl rfl (by decide +kernel) ⟨Nat.le_of_ble_eq_true rfl, Nat.le_of_ble_eq_true rfl⟩) rfl hl.1 (by simp only [nI_iI, lN_lI]; rfl) (Nat.le_of_ble_eq_true rfl) dX7_heckle_13 ⟨Nat.zero_le _, Nat.zero_le _⟩ hN hK hP hD hS hA [] [0, 1, 2, 3, 4, 5, 6, 7, 8, 9, 10, 11, 12, 13, 14] rfl rfl ⟨rfl, rfl, by decide⟩ (fun r9 u H locs w10 hP hD hS => ?_)
    obtain ⟨rfl, h11, h12⟩ | ⟨rfl, h13⟩ : (r9 = (nI 1) ∧ (((1 : Nat) : Int)) ≤ (((v : Nat) : Int)) ∧ (((v : Nat) : Int)) ≤ (((7 : Nat) : Int))) ∨ (r9 = (nI 0) ∧ ((((v : Nat) : Int)) < (((1 : Nat) : Int)) ∨ (((7 : Nat) : Int)) < (((v : Nat) : Int)))) := w10
    · refine x_if_eq (tgt := 29) hx hb dX7_heckle_16 (by decide) (by omega) (fun h14 => False.elim (by omega)) (fun h14 => ?_)
      refine lv_iload_n hx hb dX7_heckle_19 rfl (lv_at hl 3 rfl) ?_
      refine n_i2l hx hb dX7_heckle_20 (by omega) ?_
      refine lv_lconst (v := lN 0) hx hb dX7_heckle_21 rfl ?_
      refine lv_lconst (v := lN 1) hx hb dX7_heckle_22 rfl ?_
      refine k_S (As := [.long (lI (((1 : Nat) : Int))), .long (lI (((0 : Nat) : Int))), .long (lI (((1 : Nat) : Int)))]) (wr := [(rr, eMod ad len kp uo tm em pc0), (ad 2, eArr cI 2 fm), (ad 3, eArr cI 8 pq), (ad 4, eArr cI 8 dq), (ad 5, eArr cI 8 kq), (ad 6, eArr cI 2 ai), (ad 13, eArr cI 4 sna), (ad 7, eArr cI 4 wma), (ad 8, eArr cI 32 be), (ad 9, eArr cI 32 va), (ad 10, eArr cI 32 lo), (ad 11, eArr cI 4 spa), (ad 12, eArr cI 4 hea), (ad 20, eArr cI 150 lg), (ad 21, eArr cI 150 vg)]) ⟨hx, hb, hml, hown, hts⟩ (c_X7_in l D cI cC (((1 : Nat) : Int)) (((0 : Nat) : Int)) (((1 : Nat) : Int)) (by omega) (by omega) (by omega)) (cwS 3 hts gX7_heckle_X7_in rfl rfl rfl (by decide +kernel) ⟨Nat.le_of_ble_eq_true rfl, Nat.le_of_ble_eq_true rfl⟩) rfl hl.1 (by simp only [nI_iI, lN_lI]; rfl) (Nat.le_of_ble_eq_true rfl) dX7_heckle_23 ⟨Nat.zero_le _, Nat.zero_le _⟩ hN hK hP hD hS hA [] [0, 1, 2, 3, 4, 5, 6, 7, 8, 9, 10, 11, 12, 13, 14] rfl rfl ⟨rfl, rfl, by decide⟩ (fun r15 u H locs w16 hP hD hS => ?_)
      obtain ⟨rfl, h17, h18⟩ | ⟨rfl, h19⟩ : (r15 = (nI 1) ∧ (((0 : Nat) : Int)) ≤ (((1 : Nat) : Int)) ∧ (((1 : Nat) : Int)) ≤ (((1 : Nat) : Int))) ∨ (r15 = (nI 0) ∧ ((((1 : Nat) : Int)) < (((0 : Nat) : Int)) ∨ (((1 : Nat) : Int)) < (((1 : Nat) : Int)))) := w16
      · refine x_if_ne (tgt := 31) hx hb dX7_heckle_26 (by decide) (by omega) (fun h20 => ?_) (fun h20 => False.elim (by omega))
        refine lv_aload_n hx hb dX7_heckle_31 rfl (lv_at hl 0 rfl) ?_
        refine lv_aload_n hx hb dX7_heckle_32 rfl (lv_at hl 0 rfl) ?_
        refine va_get (D := D) (ci := 7) (v := .ref (ad 11)) (C := RX7) (T := TX7) (N := 28) hx hb hts inX7 hown hK hP 0 rfl rfl 11 (by decide) fl40 (fun _ h9 => h9) rfl dX7_heckle_33 ?_
        refine lv_iconst (v := (nI 0)) hx hb dX7_heckle_36 (by decide) ?_
        refine x_iald (A := A) hx hb hK hP 11 0 rfl rfl dX7_heckle_37 (by omega) (by omega) ?_
        refine lv_aload_n hx hb dX7_heckle_38 rfl (lv_at hl 0 rfl) ?_
        refine va_get (D := D) (ci := 7) (v := .ref (ad 12)) (C := RX7) (T := TX7) (N := 28) hx hb hts inX7 hown hK hP 0 rfl rfl 12 (by decide) fl43 (fun _ h9 => h9) rfl dX7_heckle_39 ?_
        refine lv_iconst (v := (nI 0)) hx hb dX7_heckle_42 (by decide) ?_
        refine x_iald (A := A) hx hb hK hP 12 0 rfl rfl dX7_heckle_43 (by omega) (by omega) ?_
        refine lv_iconst (v := (nI 0)) hx hb dX7_heckle_44 (by decide) ?_
        refine k_Vv (q := (RX7, TX7, 28)) (ci := 7) (As := [.int (nI (spa 0)), .int (nI (hea 0)), .int (nI 0)]) (wr := [(ad 11, eArr cI 4 spa), (ad 12, eArr cI 4 hea)]) ⟨hx, hb, hml, hown, hts⟩ (c_X7_sayAll l D cI cC rr ad len kp uo tm em pc0 fm pq dq kq ai sna wma be va lo cl hrc hok (by omega) wd hrd hokd (by omega) (spa 0) (hea 0) (by omega) 0 (Nat.two_pow_pos _) lg vg) (cwV 3 hts gX7_heckle_X7_sayAll rfl rfl rfl (by decide +kernel) ⟨Nat.le_of_ble_eq_true rfl, Nat.le_of_ble_eq_true rfl⟩) rfl hl.1 rfl (Nat.le_of_ble_eq_true rfl) dX7_heckle_45 ⟨Nat.zero_le _, Nat.zero_le _⟩ hN hK hP hD hS hA rfl (q0 := 0) rfl [0, 1, 2, 3, 4, 5, 6, 7, 8, 9, 10, 13, 14] [11, 12] rfl rfl ⟨rfl, rfl, by decide⟩ (fun u H locs w22 hP hD hS => ?_)
        have hP : va_P D vwCl [(ad 11, eArr cI 4 spa), (ad 12, eArr cI 4 hea), (rr, eMod ad len kp uo tm em pc0), (ad 2, eArr cI 2 fm), (ad 3, eArr cI 8 pq), (ad 4, eArr cI 8 dq), (ad 5, eArr cI 8 kq), (ad 6, eArr cI 2 ai), (ad 13, eArr cI 4 sna), (ad 7, eArr cI 4 wma), (ad 8, eArr cI 32 be), (ad 9, eArr cI 32 va), (ad 10, eArr cI 32 lo), (ad 20, eArr cI 150 ((hearM cl (fm 0) (ai 0) (sna 0) wd (wma 0) (spa 0) (hea 0) (2 ^ (wma 0) - 1)).1)), (ad 21, eArr cI 150 ((hearM cl (fm 0) (ai 0) (sna 0) wd (wma 0) (spa 0) (hea 0) (2 ^ (wma 0) - 1)).2))] H := by rw [show 2 ^ (wma 0) - 1 = 2 ^ (wma 0) - 1 - 0 from rfl]; exact hP
        have hD : va_D A [(ad 11, eArr cI 4 spa), (ad 12, eArr cI 4 hea), (rr, eMod ad len kp uo tm em pc0), (ad 2, eArr cI 2 fm), (ad 3, eArr cI 8 pq), (ad 4, eArr cI 8 dq), (ad 5, eArr cI 8 kq), (ad 6, eArr cI 2 ai), (ad 13, eArr cI 4 sna), (ad 7, eArr cI 4 wma), (ad 8, eArr cI 32 be), (ad 9, eArr cI 32 va), (ad 10, eArr cI 32 lo), (ad 20, eArr cI 150 ((hearM cl (fm 0) (ai 0) (sna 0) wd (wma 0) (spa 0) (hea 0) (2 ^ (wma 0) - 1)).1)), (ad 21, eArr cI 150 ((hearM cl (fm 0) (ai 0) (sna 0) wd (wma 0) (spa 0) (hea 0) (2 ^ (wma 0) - 1)).2))] := by rw [show 2 ^ (wma 0) - 1 = 2 ^ (wma 0) - 1 - 0 from rfl]; exact hD
        refine lv_aload_n hx hb dX7_heckle_48 rfl (lv_at hl 0 rfl) ?_
        refine lv_aload_n hx hb dX7_heckle_49 rfl (lv_at hl 0 rfl) ?_
        refine va_get (D := D) (ci := 7) (v := .ref (ad 11)) (C := RX7) (T := TX7) (N := 28) hx hb hts inX7 hown hK hP 2 rfl rfl 11 (by decide) fl40 (fun _ h9 => h9) rfl dX7_heckle_50 ?_
        refine lv_iconst (v := (nI 0)) hx hb dX7_heckle_53 (by decide) ?_
        refine x_iald (A := A) hx hb hK hP 0 0 rfl rfl dX7_heckle_54 (by omega) (by omega) ?_
        refine lv_aload_n hx hb dX7_heckle_55 rfl (lv_at hl 0 rfl) ?_
        refine va_get (D := D) (ci := 7) (v := .ref (ad 12)) (C := RX7) (T := TX7) (N := 28) hx hb hts inX7 hown hK hP 2 rfl rfl 12 (by decide) fl43 (fun _ h9 => h9) rfl dX7_heckle_56 ?_
        refine lv_iconst (v := (nI 0)) hx hb dX7_heckle_59 (by decide) ?_
        refine x_iald (A := A) hx hb hK hP 1 0 rfl rfl dX7_heckle_60 (by omega) (by omega) ?_
        refine k_V (q := (RX7, TX7, 28)) (ci := 7) (As := [.int (nI (spa 0)), .int (nI (hea 0))]) (wr := [(ad 11, eArr cI 4 spa), (ad 12, eArr cI 4 hea), (ad 2, eArr cI 2 fm), (ad 3, eArr cI 8 pq), (ad 4, eArr cI 8 dq), (ad 5, eArr cI 8 kq), (ad 13, eArr cI 4 sna), (ad 20, eArr cI 150 ((hearM cl (fm 0) (ai 0) (sna 0) wd (wma 0) (spa 0) (hea 0) (2 ^ (wma 0) - 1)).1))]) ⟨hx, hb, hml, hown, hts⟩ (c_X7_clearOf l D cI cC rr ad len kp uo tm em pc0 ai wma be va lo (hearM cl (fm 0) (ai 0) (sna 0) wd (wma 0) (spa 0) (hea 0) (2 ^ (wma 0) - 1)) wd hrd hokd (by omega) hfm.2.1 (spa 0) (hea 0) (by omega) (okS_play okS_quiet hokd _ (Nat.le_refl _))) (cwV 2 hts gX7_heckle_X7_clearOf rfl rfl rfl (by decide +kernel) ⟨Nat.le_of_ble_eq_true rfl, Nat.le_of_ble_eq_true rfl⟩) rfl hl.1 rfl (Nat.le_of_ble_eq_true rfl) dX7_heckle_61 ⟨Nat.zero_le _, Nat.zero_le _⟩ hN hK hP hD hS hA rfl (q0 := 2) rfl [2, 7, 9, 10, 11, 12, 14] [0, 1, 3, 4, 5, 6, 8, 13] rfl rfl ⟨rfl, rfl, by decide⟩ (fun r23 u H locs w24 hP hD hS => ?_)
        obtain rfl : r23 = (nI (hitS (hearM cl (fm 0) (ai 0) (sna 0) wd (wma 0) (spa 0) (hea 0) (2 ^ (wma 0) - 1)) wd 0 (absd (spa 0) (hea 0)) (ai 0 * absd (spa 0) (hea 0)) (wma 0))) := w24
        have hh0 : hitS (hearM cl (fm 0) (ai 0) (sna 0) wd (wma 0) (spa 0) (hea 0) (2 ^ (wma 0) - 1)) wd 0 (absd (spa 0) (hea 0)) (ai 0 * absd (spa 0) (hea 0)) (wma 0) < 256 := Nat.lt_of_lt_of_le (hitS_lt _ _ _ _ _ _) hp8
        refine lv_istore (lv' := [(4, .int (nI (hitS (hearM cl (fm 0) (ai 0) (sna 0) wd (wma 0) (spa 0) (hea 0) (2 ^ (wma 0) - 1)) wd 0 (absd (spa 0) (hea 0)) (ai 0 * absd (spa 0) (hea 0)) (wma 0)))), (0, .ref rr), (1, .int (nI x)), (2, .int (nI v)), (3, .int (nI 1))]) hx hb dX7_heckle_64 hl (by decide) rfl (fun ls hl => ?_)
        refine lv_iconst (v := (nI 1)) hx hb dX7_heckle_66 (by decide) ?_
        refine lv_istore (lv' := [(5, .int (nI 1)), (4, .int (nI (hitS (hearM cl (fm 0) (ai 0) (sna 0) wd (wma 0) (spa 0) (hea 0) (2 ^ (wma 0) - 1)) wd 0 (absd (spa 0) (hea 0)) (ai 0 * absd (spa 0) (hea 0)) (wma 0)))), (0, .ref rr), (1, .int (nI x)), (2, .int (nI v)), (3, .int (nI 1))]) hx hb dX7_heckle_67 hl (by decide) rfl (fun ls hl => ?_)
        have loop69 : ∀ (nn69 : Nat) (lv : Nat) (lg' : Nat → Nat) (vg' : Nat → Nat), 61 - lv < nn69 → (1 ≤ lv) → (lv ≤ 61) → ∀ (H : Heap) (locs : List Loc), va_P D vwCl [(rr, eMod ad len kp uo tm em pc0), (ad 2, eArr cI 2 fm), (ad 3, eArr cI 8 pq), (ad 4, eArr cI 8 dq), (ad 5, eArr cI 8 kq), (ad 6, eArr cI 2 ai), (ad 13, eArr cI 4 sna), (ad 7, eArr cI 4 wma), (ad 8, eArr cI 32 be), (ad 9, eArr cI 32 va), (ad 10, eArr cI 32 lo), (ad 11, eArr cI 4 spa), (ad 12, eArr cI 4 hea), (ad 20, eArr cI 150 lg'), (ad 21, eArr cI 150 vg')] H → va_D A [(rr, eMod ad len kp uo tm em pc0), (ad 2, eArr cI 2 fm), (ad 3, eArr cI 8 pq), (ad 4, eArr cI 8 dq), (ad 5, eArr cI 8 kq), (ad 6, eArr cI 2 ai), (ad 13, eArr cI 4 sna), (ad 7, eArr cI 4 wma), (ad 8, eArr cI 32 be), (ad 9, eArr cI 32 va), (ad 10, eArr cI 32 lo), (ad 11, eArr cI 4 spa), (ad 12, eArr cI 4 hea), (ad 20, eArr cI 150 lg'), (ad 21, eArr cI 150 vg')] → va_S A s.heap H locs → ∀ ls : Array Slot, lv_has ls 7 [(5, .int (nI lv)), (4, .int (nI (hitS (hearM cl (fm 0) (ai 0) (sna 0) wd (wma 0) (spa 0) (hea 0) (2 ^ (wma 0) - 1)) wd 0 (absd (spa 0) (hea 0)) (ai 0 * absd (spa 0) (hea 0)) (wma 0)))), (0, .ref rr), (1, .int (nI x)), (2, .int (nI v)), (3, .int (nI 1))] → W p l e (headSpec wsX7_heckle ({ frames := 4, cells := 0, slots := 0, locals := 98 })).room s m ([.ref rr, .int (nI x), .int (nI v), .int (nI 1)] : List Value).toArray below meth c H locs 0 0 (MQ below (va_Qi (fun (r : Int32) ((lg', vg') : (Nat → Nat) × (Nat → Nat)) => r = (iI (-4))) (ctB D cI cC (fun ((lg', vg') : (Nat → Nat) × (Nat → Nat)) => [(rr, eMod ad len kp uo tm em pc0), (ad 2, eArr cI 2 fm), (ad 3, eArr cI 8 pq), (ad 4, eArr cI 8 dq), (ad 5, eArr cI 8 kq), (ad 6, eArr cI 2 ai), (ad 13, eArr cI 4 sna), (ad 7, eArr cI 4 wma), (ad 8, eArr cI 32 be), (ad 9, eArr cI 32 va), (ad 10, eArr cI 32 lo), (ad 11, eArr cI 4 spa), (ad 12, eArr cI 4 hea), (ad 20, eArr cI 150 lg'), (ad 21, eArr cI 150 vg')]) A) A) ([.ref rr, .int (nI x), .int (nI v), .int (nI 1)] : List Value).toArray s 0 0 A) (F0 m 69 ls []) := by
          intro nn69
          induction nn69 with
          | zero =>
            intro lv lg' vg' hm25
            exact absurd hm25 (Nat.not_lt_zero _)
          | succ nn69 ih69 =>
            intro lv lg' vg' hm25 hi26 hi27 H locs hP hD hS ls hl
            refine lv_iload hx hb dX7_heckle_69 (lv_at hl 0 rfl) ?_
            refine lv_bipush (v := (nI 60)) hx hb dX7_heckle_71 (by decide) ?_
            refine x_icmp_gt (tgt := 172) hx hb dX7_heckle_73 (by decide) (by omega) (by omega) (fun h28 => ?_) (fun h28 => ?_)
            · refine lv_bipush (v := (iI (-4))) hx hb dX7_heckle_172 (by decide) ?_
              exact x_iret hx hb hr hlocks dX7_heckle_174 rfl (post := fun (r : Int32) ((lg', vg') : (Nat → Nat) × (Nat → Nat)) => r = (iI (-4))) (w1 := fun ((lg', vg') : (Nat → Nat) × (Nat → Nat)) => [(rr, eMod ad len kp uo tm em pc0), (ad 2, eArr cI 2 fm), (ad 3, eArr cI 8 pq), (ad 4, eArr cI 8 dq), (ad 5, eArr cI 8 kq), (ad 6, eArr cI 2 ai), (ad 13, eArr cI 4 sna), (ad 7, eArr cI 4 wma), (ad 8, eArr cI 32 be), (ad 9, eArr cI 32 va), (ad 10, eArr cI 32 lo), (ad 11, eArr cI 4 spa), (ad 12, eArr cI 4 hea), (ad 20, eArr cI 150 lg'), (ad 21, eArr cI 150 vg')]) (lg', vg') rfl hK hP hD hS
            · refine lv_iload hx hb dX7_heckle_76 (lv_at hl 1 rfl) ?_
              refine x_if_eq (tgt := 172) hx hb dX7_heckle_78 (by decide) (by omega) (fun h29 => ?_) (fun h29 => ?_)
              · refine lv_bipush (v := (iI (-4))) hx hb dX7_heckle_172 (by decide) ?_
                exact x_iret hx hb hr hlocks dX7_heckle_174 rfl (post := fun (r : Int32) ((lg', vg') : (Nat → Nat) × (Nat → Nat)) => r = (iI (-4))) (w1 := fun ((lg', vg') : (Nat → Nat) × (Nat → Nat)) => [(rr, eMod ad len kp uo tm em pc0), (ad 2, eArr cI 2 fm), (ad 3, eArr cI 8 pq), (ad 4, eArr cI 8 dq), (ad 5, eArr cI 8 kq), (ad 6, eArr cI 2 ai), (ad 13, eArr cI 4 sna), (ad 7, eArr cI 4 wma), (ad 8, eArr cI 32 be), (ad 9, eArr cI 32 va), (ad 10, eArr cI 32 lo), (ad 11, eArr cI 4 spa), (ad 12, eArr cI 4 hea), (ad 20, eArr cI 150 lg'), (ad 21, eArr cI 150 vg')]) (lg', vg') rfl hK hP hD hS
              · refine lv_iconst (v := (nI 0)) hx hb dX7_heckle_81 (by decide) ?_
                refine lv_istore (lv' := [(6, .int (nI 0)), (5, .int (nI lv)), (4, .int (nI (hitS (hearM cl (fm 0) (ai 0) (sna 0) wd (wma 0) (spa 0) (hea 0) (2 ^ (wma 0) - 1)) wd 0 (absd (spa 0) (hea 0)) (ai 0 * absd (spa 0) (hea 0)) (wma 0)))), (0, .ref rr), (1, .int (nI x)), (2, .int (nI v)), (3, .int (nI 1))]) hx hb dX7_heckle_82 hl (by decide) rfl (fun ls hl => ?_)
                have loop84 : ∀ (nn84 : Nat) (t : Nat) (lg' : Nat → Nat) (vg' : Nat → Nat), 61 - t < nn84 → (t ≤ 61) → (1 ≤ lv ∧ lv ≤ 60) → ∀ (H : Heap) (locs : List Loc), va_P D vwCl [(rr, eMod ad len kp uo tm em pc0), (ad 2, eArr cI 2 fm), (ad 3, eArr cI 8 pq), (ad 4, eArr cI 8 dq), (ad 5, eArr cI 8 kq), (ad 6, eArr cI 2 ai), (ad 13, eArr cI 4 sna), (ad 7, eArr cI 4 wma), (ad 8, eArr cI 32 be), (ad 9, eArr cI 32 va), (ad 10, eArr cI 32 lo), (ad 11, eArr cI 4 spa), (ad 12, eArr cI 4 hea), (ad 20, eArr cI 150 lg'), (ad 21, eArr cI 150 vg')] H → va_D A [(rr, eMod ad len kp uo tm em pc0), (ad 2, eArr cI 2 fm), (ad 3, eArr cI 8 pq), (ad 4, eArr cI 8 dq), (ad 5, eArr cI 8 kq), (ad 6, eArr cI 2 ai), (ad 13, eArr cI 4 sna), (ad 7, eArr cI 4 wma), (ad 8, eArr cI 32 be), (ad 9, eArr cI 32 va), (ad 10, eArr cI 32 lo), (ad 11, eArr cI 4 spa), (ad 12, eArr cI 4 hea), (ad 20, eArr cI 150 lg'), (ad 21, eArr cI 150 vg')] → va_S A s.heap H locs → ∀ ls : Array Slot, lv_has ls 7 [(6, .int (nI t)), (5, .int (nI lv)), (4, .int (nI (hitS (hearM cl (fm 0) (ai 0) (sna 0) wd (wma 0) (spa 0) (hea 0) (2 ^ (wma 0) - 1)) wd 0 (absd (spa 0) (hea 0)) (ai 0 * absd (spa 0) (hea 0)) (wma 0)))), (0, .ref rr), (1, .int (nI x)), (2, .int (nI v)), (3, .int (nI 1))] → W p l e (headSpec wsX7_heckle ({ frames := 4, cells := 0, slots := 0, locals := 98 })).room s m ([.ref rr, .int (nI x), .int (nI v), .int (nI 1)] : List Value).toArray below meth c H locs 0 0 (MQ below (va_Qi (fun (r : Int32) ((lg', vg') : (Nat → Nat) × (Nat → Nat)) => r = (iI (-4))) (ctB D cI cC (fun ((lg', vg') : (Nat → Nat) × (Nat → Nat)) => [(rr, eMod ad len kp uo tm em pc0), (ad 2, eArr cI 2 fm), (ad 3, eArr cI 8 pq), (ad 4, eArr cI 8 dq), (ad 5, eArr cI 8 kq), (ad 6, eArr cI 2 ai), (ad 13, eArr cI 4 sna), (ad 7, eArr cI 4 wma), (ad 8, eArr cI 32 be), (ad 9, eArr cI 32 va), (ad 10, eArr cI 32 lo), (ad 11, eArr cI 4 spa), (ad 12, eArr cI 4 hea), (ad 20, eArr cI 150 lg'), (ad 21, eArr cI 150 vg')]) A) A) ([.ref rr, .int (nI x), .int (nI v), .int (nI 1)] : List Value).toArray s 0 0 A) (F0 m 84 ls []) := by
                  intro nn84
                  induction nn84 with
                  | zero =>
                    intro t lg' vg' hm30
                    exact absurd hm30 (Nat.not_lt_zero _)
                  | succ nn84 ih84 =>
                    intro t lg' vg' hm30 hi31 hi32 H locs hP hD hS ls hl
                    refine lv_iload hx hb dX7_heckle_84 (lv_at hl 0 rfl) ?_
                    refine lv_bipush (v := (nI 60)) hx hb dX7_heckle_86 (by decide) ?_
                    refine x_icmp_gt (tgt := 166) hx hb dX7_heckle_88 (by decide) (by omega) (by omega) (fun h33 => ?_) (fun h33 => ?_)
                    · refine lv_iinc (v := (nI (lv + 1))) (lv' := [(5, .int (nI (lv + 1))), (6, .int (nI t)), (4, .int (nI (hitS (hearM cl (fm 0) (ai 0) (sna 0) wd (wma 0) (spa 0) (hea 0) (2 ^ (wma 0) - 1)) wd 0 (absd (spa 0) (hea 0)) (ai 0 * absd (spa 0) (hea 0)) (wma 0)))), (0, .ref rr), (1, .int (nI x)), (2, .int (nI v)), (3, .int (nI 1))]) hx hb dX7_heckle_166 hl (k := 1) rfl (nI_inc _ 1) (by decide) rfl (fun ls hl => ?_)
                      refine lv_goto (tgt := 69) hx hb dX7_heckle_169 (by decide) ?_
                      exact ih69 (lv + 1) lg' vg' (by omega) (by omega) (by omega) _ _ (hP.sub [0, 1, 2, 3, 4, 5, 6, 7, 8, 9, 10, 11, 12, 13, 14] rfl) (hD.sub [0, 1, 2, 3, 4, 5, 6, 7, 8, 9, 10, 11, 12, 13, 14] rfl rfl) hS _ (lv_sub hl [0, 2, 3, 4, 5, 6] rfl)
                    · refine lv_aload_n hx hb dX7_heckle_91 rfl (lv_at hl 3 rfl) ?_
                      refine lv_aload_n hx hb dX7_heckle_92 rfl (lv_at hl 3 rfl) ?_
                      refine va_get (D := D) (ci := 7) (v := .ref (ad 11)) (C := RX7) (T := TX7) (N := 28) hx hb hts inX7 hown hK hP 0 rfl rfl 11 (by decide) fl40 (fun _ h9 => h9) rfl dX7_heckle_93 ?_
                      refine lv_iconst (v := (nI 0)) hx hb dX7_heckle_96 (by decide) ?_
                      refine x_iald (A := A) hx hb hK hP 11 0 rfl rfl dX7_heckle_97 (by omega) (by omega) ?_
                      refine lv_aload_n hx hb dX7_heckle_98 rfl (lv_at hl 3 rfl) ?_
                      refine va_get (D := D) (ci := 7) (v := .ref (ad 12)) (C := RX7) (T := TX7) (N := 28) hx hb hts inX7 hown hK hP 0 rfl rfl 12 (by decide) fl43 (fun _ h9 => h9) rfl dX7_heckle_99 ?_
                      refine lv_iconst (v := (nI 0)) hx hb dX7_heckle_102 (by decide) ?_
                      refine x_iald (A := A) hx hb hK hP 12 0 rfl rfl dX7_heckle_103 (by omega) (by omega) ?_
                      refine lv_iconst (v := (nI 0)) hx hb dX7_heckle_104 (by decide) ?_
                      refine k_Vv (q := (RX7, TX7, 28)) (ci := 7) (As := [.int (nI (spa 0)), .int (nI (hea 0)), .int (nI 0)]) (wr := [(ad 11, eArr cI 4 spa), (ad 12, eArr cI 4 hea)]) ⟨hx, hb, hml, hown, hts⟩ (c_X7_sayAll l D cI cC rr ad len kp uo tm em pc0 fm pq dq kq ai sna wma be va lo cl hrc hok (by omega) wd hrd hokd (by omega) (spa 0) (hea 0) (by omega) 0 (Nat.two_pow_pos _) lg' vg') (cwV 3 hts gX7_heckle_X7_sayAll rfl rfl rfl (by decide +kernel) ⟨Nat.le_of_ble_eq_true rfl, Nat.le_of_ble_eq_true rfl⟩) rfl hl.1 rfl (Nat.le_of_ble_eq_true rfl) dX7_heckle_105 ⟨Nat.zero_le _, Nat.zero_le _⟩ hN hK hP hD hS hA rfl (q0 := 0) rfl [0, 1, 2, 3, 4, 5, 6, 7, 8, 9, 10, 13, 14] [11, 12] rfl rfl ⟨rfl, rfl, by decide⟩ (fun u H locs w35 hP hD hS => ?_)
                      have hP : va_P D vwCl [(ad 11, eArr cI 4 spa), (ad 12, eArr cI 4 hea), (rr, eMod ad len kp uo tm em pc0), (ad 2, eArr cI 2 fm), (ad 3, eArr cI 8 pq), (ad 4, eArr cI 8 dq), (ad 5, eArr cI 8 kq), (ad 6, eArr cI 2 ai), (ad 13, eArr cI 4 sna), (ad 7, eArr cI 4 wma), (ad 8, eArr cI 32 be), (ad 9, eArr cI 32 va), (ad 10, eArr cI 32 lo), (ad 20, eArr cI 150 ((hearM cl (fm 0) (ai 0) (sna 0) wd (wma 0) (spa 0) (hea 0) (2 ^ (wma 0) - 1)).1)), (ad 21, eArr cI 150 ((hearM cl (fm 0) (ai 0) (sna 0) wd (wma 0) (spa 0) (hea 0) (2 ^ (wma 0) - 1)).2))] H := by rw [show 2 ^ (wma 0) - 1 = 2 ^ (wma 0) - 1 - 0 from rfl]; exact hP
                      have hD : va_D A [(ad 11, eArr cI 4 spa), (ad 12, eArr cI 4 hea), (rr, eMod ad len kp uo tm em pc0), (ad 2, eArr cI 2 fm), (ad 3, eArr cI 8 pq), (ad 4, eArr cI 8 dq), (ad 5, eArr cI 8 kq), (ad 6, eArr cI 2 ai), (ad 13, eArr cI 4 sna), (ad 7, eArr cI 4 wma), (ad 8, eArr cI 32 be), (ad 9, eArr cI 32 va), (ad 10, eArr cI 32 lo), (ad 20, eArr cI 150 ((hearM cl (fm 0) (ai 0) (sna 0) wd (wma 0) (spa 0) (hea 0) (2 ^ (wma 0) - 1)).1)), (ad 21, eArr cI 150 ((hearM cl (fm 0) (ai 0) (sna 0) wd (wma 0) (spa 0) (hea 0) (2 ^ (wma 0) - 1)).2))] := by rw [show 2 ^ (wma 0) - 1 = 2 ^ (wma 0) - 1 - 0 from rfl]; exact hD
                      refine lv_aload_n hx hb dX7_heckle_108 rfl (lv_at hl 3 rfl) ?_
                      refine lv_iload_n hx hb dX7_heckle_109 rfl (lv_at hl 4 rfl) ?_
                      refine lv_iload hx hb dX7_heckle_110 (lv_at hl 0 rfl) ?_
                      refine lv_iload_n hx hb dX7_heckle_112 rfl (lv_at hl 5 rfl) ?_
                      refine lv_iload hx hb dX7_heckle_113 (lv_at hl 1 rfl) ?_
                      refine lv_aload_n hx hb dX7_heckle_115 rfl (lv_at hl 3 rfl) ?_
                      refine va_get (D := D) (ci := 7) (v := .ref (ad 12)) (C := RX7) (T := TX7) (N := 28) hx hb hts inX7 hown hK hP 2 rfl rfl 12 (by decide) fl43 (fun _ h9 => h9) rfl dX7_heckle_116 ?_
                      refine lv_iconst (v := (nI 0)) hx hb dX7_heckle_119 (by decide) ?_
                      refine x_iald (A := A) hx hb hK hP 1 0 rfl rfl dX7_heckle_120 (by omega) (by omega) ?_
                      refine k_Vv (q := (RX7, TX7, 28)) (ci := 7) (As := [.int (nI x), .int (nI t), .int (nI v), .int (nI lv), .int (nI (hea 0))]) (wr := [(ad 11, eArr cI 4 spa), (ad 12, eArr cI 4 hea), (ad 7, eArr cI 4 wma), (ad 8, eArr cI 32 be), (ad 9, eArr cI 32 va), (ad 10, eArr cI 32 lo)]) ⟨hx, hb, hml, hown, hts⟩ (c_X7_say1 l D cI cC rr ad len kp uo tm em pc0 fm pq dq kq ai sna (hearM cl (fm 0) (ai 0) (sna 0) wd (wma 0) (spa 0) (hea 0) (2 ^ (wma 0) - 1)) cl hrc hok (by omega) x t v lv (hea 0) (by omega) (by omega) (okS_play okS_quiet hokd _ (Nat.le_refl _))) (cwV 5 hts gX7_heckle_X7_say1 rfl rfl rfl (by decide +kernel) ⟨Nat.le_of_ble_eq_true rfl, Nat.le_of_ble_eq_true rfl⟩) rfl hl.1 rfl (Nat.le_of_ble_eq_true rfl) dX7_heckle_121 ⟨Nat.zero_le _, Nat.zero_le _⟩ hN hK hP hD hS hA rfl (q0 := 2) rfl [2, 3, 4, 5, 6, 7, 8, 13, 14] [0, 1, 9, 10, 11, 12] rfl rfl ⟨rfl, rfl, by decide⟩ (fun u H locs w37 hP hD hS => ?_)
                      refine lv_iload hx hb dX7_heckle_124 (lv_at hl 2 rfl) ?_
                      refine lv_aload_n hx hb dX7_heckle_126 rfl (lv_at hl 3 rfl) ?_
                      refine lv_aload_n hx hb dX7_heckle_127 rfl (lv_at hl 3 rfl) ?_
                      refine va_get (D := D) (ci := 7) (v := .ref (ad 11)) (C := RX7) (T := TX7) (N := 28) hx hb hts inX7 hown hK hP 6 rfl rfl 11 (by decide) fl40 (fun _ h9 => h9) rfl dX7_heckle_128 ?_
                      refine lv_iconst (v := (nI 0)) hx hb dX7_heckle_131 (by decide) ?_
                      refine x_iald (A := A) hx hb hK hP 0 0 rfl rfl dX7_heckle_132 (by omega) (by omega) ?_
                      refine lv_aload_n hx hb dX7_heckle_133 rfl (lv_at hl 3 rfl) ?_
                      refine va_get (D := D) (ci := 7) (v := .ref (ad 12)) (C := RX7) (T := TX7) (N := 28) hx hb hts inX7 hown hK hP 6 rfl rfl 12 (by decide) fl43 (fun _ h9 => h9) rfl dX7_heckle_134 ?_
                      refine lv_iconst (v := (nI 0)) hx hb dX7_heckle_137 (by decide) ?_
                      refine x_iald (A := A) hx hb hK hP 1 0 rfl rfl dX7_heckle_138 (by omega) (by omega) ?_
                      refine k_V (q := (RX7, TX7, 28)) (ci := 7) (As := [.int (nI (spa 0)), .int (nI (hea 0))]) (wr := [(ad 11, eArr cI 4 spa), (ad 12, eArr cI 4 hea), (ad 2, eArr cI 2 fm), (ad 3, eArr cI 8 pq), (ad 4, eArr cI 8 dq), (ad 5, eArr cI 8 kq), (ad 13, eArr cI 4 sna), (ad 20, eArr cI 150 ((carryM (hearM cl (fm 0) (ai 0) (sna 0) wd (wma 0) (spa 0) (hea 0) (2 ^ (wma 0) - 1)) t v lv (waysM cl (ai 0) (sna 0) x (hea 0) (fm 0))).1))]) ⟨hx, hb, hml, hown, hts⟩ (c_X7_clearOf l D cI cC rr ad len kp uo tm em pc0 ai wma be va lo (carryM (hearM cl (fm 0) (ai 0) (sna 0) wd (wma 0) (spa 0) (hea 0) (2 ^ (wma 0) - 1)) t v lv (waysM cl (ai 0) (sna 0) x (hea 0) (fm 0))) wd hrd hokd (by omega) hfm.2.1 (spa 0) (hea 0) (by omega) (okS_carry (by omega) (by omega) _ _ (okS_play okS_quiet hokd _ (Nat.le_refl _)))) (cwV 2 hts gX7_heckle_X7_clearOf rfl rfl rfl (by decide +kernel) ⟨Nat.le_of_ble_eq_true rfl, Nat.le_of_ble_eq_true rfl⟩) rfl hl.1 rfl (Nat.le_of_ble_eq_true rfl) dX7_heckle_139 ⟨Nat.zero_le _, Nat.zero_le _⟩ hN hK hP hD hS hA rfl (q0 := 6) rfl [6, 11, 2, 3, 4, 5, 14] [0, 1, 7, 8, 9, 10, 12, 13] rfl rfl ⟨rfl, rfl, by decide⟩ (fun r38 u H locs w39 hP hD hS => ?_)
                      obtain rfl : r38 = (nI (hitS (carryM (hearM cl (fm 0) (ai 0) (sna 0) wd (wma 0) (spa 0) (hea 0) (2 ^ (wma 0) - 1)) t v lv (waysM cl (ai 0) (sna 0) x (hea 0) (fm 0))) wd 0 (absd (spa 0) (hea 0)) (ai 0 * absd (spa 0) (hea 0)) (wma 0))) := w39
                      have hh1 : hitS (carryM (hearM cl (fm 0) (ai 0) (sna 0) wd (wma 0) (spa 0) (hea 0) (2 ^ (wma 0) - 1)) t v lv (waysM cl (ai 0) (sna 0) x (hea 0) (fm 0))) wd 0 (absd (spa 0) (hea 0)) (ai 0 * absd (spa 0) (hea 0)) (wma 0) < 256 := Nat.lt_of_lt_of_le (hitS_lt _ _ _ _ _ _) hp8
                      refine lv_iconst (v := (iI (-1))) hx hb dX7_heckle_142 (by decide) ?_
                      refine lv_ixor hx hb dX7_heckle_143 ?_
                      refine lv_iand hx hb dX7_heckle_144 ?_
                      refine x_top (and_not hh0 hh1) ?_
                      have hab : ((hitS (hearM cl (fm 0) (ai 0) (sna 0) wd (wma 0) (spa 0) (hea 0) (2 ^ (wma 0) - 1)) wd 0 (absd (spa 0) (hea 0)) (ai 0 * absd (spa 0) (hea 0)) (wma 0)) &&& (255 - (hitS (carryM (hearM cl (fm 0) (ai 0) (sna 0) wd (wma 0) (spa 0) (hea 0) (2 ^ (wma 0) - 1)) t v lv (waysM cl (ai 0) (sna 0) x (hea 0) (fm 0))) wd 0 (absd (spa 0) (hea 0)) (ai 0 * absd (spa 0) (hea 0)) (wma 0)))) ≤ 255 - (hitS (carryM (hearM cl (fm 0) (ai 0) (sna 0) wd (wma 0) (spa 0) (hea 0) (2 ^ (wma 0) - 1)) t v lv (waysM cl (ai 0) (sna 0) x (hea 0) (fm 0))) wd 0 (absd (spa 0) (hea 0)) (ai 0 * absd (spa 0) (hea 0)) (wma 0)) := Nat.and_le_right
                      refine x_if_eq (tgt := 160) hx hb dX7_heckle_145 (by decide) (by omega) (fun h40 => ?_) (fun h40 => ?_)
                      · have hsp1 : spoB (hearM cl (fm 0) (ai 0) (sna 0) wd (wma 0) (spa 0) (hea 0) (2 ^ (wma 0) - 1)) (hitS (hearM cl (fm 0) (ai 0) (sna 0) wd (wma 0) (spa 0) (hea 0) (2 ^ (wma 0) - 1)) wd 0 (absd (spa 0) (hea 0)) (ai 0 * absd (spa 0) (hea 0)) (wma 0)) wd (wma 0) (absd (spa 0) (hea 0)) (ai 0 * absd (spa 0) (hea 0)) (waysM cl (ai 0) (sna 0) x (hea 0) (fm 0)) v lv t = false := decide_eq_false (by first | assumption | exact fun hh => hh (by assumption))
                        refine lv_iinc (v := (nI (t + 1))) (lv' := [(6, .int (nI (t + 1))), (5, .int (nI lv)), (4, .int (nI (hitS (hearM cl (fm 0) (ai 0) (sna 0) wd (wma 0) (spa 0) (hea 0) (2 ^ (wma 0) - 1)) wd 0 (absd (spa 0) (hea 0)) (ai 0 * absd (spa 0) (hea 0)) (wma 0)))), (0, .ref rr), (1, .int (nI x)), (2, .int (nI v)), (3, .int (nI 1))]) hx hb dX7_heckle_160 hl (k := 0) rfl (nI_inc _ 1) (by decide) rfl (fun ls hl => ?_)
                        refine lv_goto (tgt := 84) hx hb dX7_heckle_163 (by decide) ?_
                        exact ih84 (t + 1) ((carryM (hearM cl (fm 0) (ai 0) (sna 0) wd (wma 0) (spa 0) (hea 0) (2 ^ (wma 0) - 1)) t v lv (waysM cl (ai 0) (sna 0) x (hea 0) (fm 0))).1) ((carryM (hearM cl (fm 0) (ai 0) (sna 0) wd (wma 0) (spa 0) (hea 0) (2 ^ (wma 0) - 1)) t v lv (waysM cl (ai 0) (sna 0) x (hea 0) (fm 0))).2) (by omega) (by omega) (by omega) _ _ (hP.sub [8, 2, 3, 4, 5, 9, 6, 10, 11, 12, 13, 0, 1, 7, 14] rfl) (hD.sub [8, 2, 3, 4, 5, 9, 6, 10, 11, 12, 13, 0, 1, 7, 14] rfl rfl) hS _ (lv_sub hl [0, 1, 2, 3, 4, 5, 6] rfl)
                      · have hsp1 : spoB (hearM cl (fm 0) (ai 0) (sna 0) wd (wma 0) (spa 0) (hea 0) (2 ^ (wma 0) - 1)) (hitS (hearM cl (fm 0) (ai 0) (sna 0) wd (wma 0) (spa 0) (hea 0) (2 ^ (wma 0) - 1)) wd 0 (absd (spa 0) (hea 0)) (ai 0 * absd (spa 0) (hea 0)) (wma 0)) wd (wma 0) (absd (spa 0) (hea 0)) (ai 0 * absd (spa 0) (hea 0)) (waysM cl (ai 0) (sna 0) x (hea 0) (fm 0)) v lv t = true := decide_eq_true (by first | assumption | exact fun hh => hh (by assumption))
                        exact absurd hsp1 (by rw [hb1 lv (by omega) (by omega) t (by omega)]; decide)
                exact loop84 _ 0 lg' vg' (Nat.lt_succ_self _) (by omega) (by omega) _ _ (hP.sub [0, 1, 2, 3, 4, 5, 6, 7, 8, 9, 10, 11, 12, 13, 14] rfl) (hD.sub [0, 1, 2, 3, 4, 5, 6, 7, 8, 9, 10, 11, 12, 13, 14] rfl rfl) hS _ (lv_sub hl [0, 1, 2, 3, 4, 5, 6] rfl)
        exact loop69 _ 1 ((hearM cl (fm 0) (ai 0) (sna 0) wd (wma 0) (spa 0) (hea 0) (2 ^ (wma 0) - 1)).1) ((hearM cl (fm 0) (ai 0) (sna 0) wd (wma 0) (spa 0) (hea 0) (2 ^ (wma 0) - 1)).2) (Nat.lt_succ_self _) (by omega) (by omega) _ _ (hP.sub [8, 2, 3, 4, 5, 9, 6, 10, 11, 12, 13, 0, 1, 7, 14] rfl) (hD.sub [8, 2, 3, 4, 5, 9, 6, 10, 11, 12, 13, 0, 1, 7, 14] rfl rfl) hS _ (lv_sub hl [0, 1, 2, 3, 4, 5] rfl)
      · exact False.elim (by omega)
    · exact False.elim (by omega)
  · exact False.elim (by omega)

theorem relC_mv {pq dq kq cl : Nat → Nat} {nc f y : Nat} (h : relC pq dq kq cl nc) {pq' : Nat → Nat} (h2 : ∀ j, j ≠ f → pq' j = pq j) : relC (upN pq' f y) dq kq (upN cl (3 * f + 0) y) nc := by
  intro k hk
  have h1 := h k hk
  refine ⟨?_, ?_, ?_⟩
  · by_cases e : k = f
    · subst e; rw [upN_s, upN_s]
    · rw [upN_n e, upN_n (by omega), h2 k e]; exact h1.1
  · rw [upN_n (by omega)]; exact h1.2.1
  · rw [upN_n (by omega)]; exact h1.2.2

set_option maxRecDepth 100000 in
set_option maxHeartbeats 4000000 in
theorem c_X7_moved_some (l : Launch) (D : va_G) (cI cC : ClassId) (rr : Nat) (ad : Nat → Nat) (len : Nat) (kp : Nat) (uo : Nat) (tm : Nat) (em : Nat) (pc0 : Nat) (fm : Nat → Nat) (pq : Nat → Nat) (dq : Nat → Nat) (kq : Nat → Nat) (ai : Nat → Nat) (sna : Nat → Nat) (wma : Nat → Nat) (be : Nat → Nat) (va : Nat → Nat) (lo : Nat → Nat) (ea : Nat → Nat) (eb : Nat → Nat) (eh : Nat → Nat) (lg : Nat → Nat) (vg : Nat → Nat) (cl : Nat → Nat) (hrc : relC pq dq kq cl (fm 0)) (hok : okC cl (fm 0)) (hfm : fm 0 ≤ 4 ∧ ai 0 ≤ 99 ∧ sna 0 < 2147483648) (wd : Nat → Nat) (hrd : relD be va lo wd (wma 0)) (hokd : okD wd (wma 0)) (hnw : wma 0 ≤ 8) (eg : Nat → Nat) (hre : relE ea eb eh eg em) (hem : em ≤ 9) (hoe : ∀ i, i < em → eg (3 * i + 0) ≤ 40 ∧ eg (3 * i + 1) ≤ 149 ∧ eg (3 * i + 2) ≤ 8) (spa : Nat → Nat) (hsp : spa 0 ≤ 40) (f0 : Nat) (p0 : Nat) (hf0 : f0 < fm 0 ∧ p0 ≤ 40) (htr : movG cl (fm 0) (ai 0) (sna 0) wd (wma 0) eg em (spa 0) f0 p0 = true) (hb1 : ∀ f, f < f0 → ∀ y, y ≤ 40 → movG cl (fm 0) (ai 0) (sna 0) wd (wma 0) eg em (spa 0) f y = false) (hb2 : ∀ y, y < p0 → movG cl (fm 0) (ai 0) (sna 0) wd (wma 0) eg em (spa 0) f0 y = false) : mtI l D cI cC yX7_moved wsX7_moved ({ frames := 5, cells := 0, slots := 0, locals := 120 }) [.ref rr] [(rr, eMod ad len kp uo tm em pc0), (ad 2, eArr cI 2 fm), (ad 3, eArr cI 8 pq), (ad 4, eArr cI 8 dq), (ad 5, eArr cI 8 kq), (ad 6, eArr cI 2 ai), (ad 13, eArr cI 4 sna), (ad 7, eArr cI 4 wma), (ad 8, eArr cI 32 be), (ad 9, eArr cI 32 va), (ad 10, eArr cI 32 lo), (ad 16, eArr cI 9 ea), (ad 17, eArr cI 9 eb), (ad 18, eArr cI 9 eh), (ad 11, eArr cI 4 spa), (ad 20, eArr cI 150 lg), (ad 21, eArr cI 150 vg)] (fun (r : Int32) ((lg', vg') : (Nat → Nat) × (Nat → Nat)) => r = (nI (100 * f0 + p0))) (fun ((lg', vg') : (Nat → Nat) × (Nat → Nat)) => [(rr, eMod ad len kp uo tm em pc0), (ad 2, eArr cI 2 fm), (ad 3, eArr cI 8 pq), (ad 4, eArr cI 8 dq), (ad 5, eArr cI 8 kq), (ad 6, eArr cI 2 ai), (ad 13, eArr cI 4 sna), (ad 7, eArr cI 4 wma), (ad 8, eArr cI 32 be), (ad 9, eArr cI 32 va), (ad 10, eArr cI 32 lo), (ad 16, eArr cI 9 ea), (ad 17, eArr cI 9 eb), (ad 18, eArr cI 9 eh), (ad 11, eArr cI 4 spa), (ad 20, eArr cI 150 lg'), (ad 21, eArr cI 150 vg')]) := by
  refine mtI_of (cc := cX7_moved) (maxL := 5) (ret := (some .int)) (by decide) rfl rfl ?_
  intro p e s m below meth c A hx hb hml hr hts hown hlocks hN hA hK hP hD hS ls hl
  have hown : s.vm.findClass RX7 = some m.cls := hown
  have hl : lv_has ls 5 [(0, .ref rr)] := hl
  obtain ⟨H, hHe⟩ : ∃ H, H = s.heap := ⟨_, rfl⟩
  rw [← hHe] at hP ⊢
  have hS : va_S A s.heap H [] := by rw [hHe]; exact va_S.rf
  have fl13 := hts (.fieldLink RX7 13 "EchoPaysRentModel" "faceMany" "[I") (by decide +kernel)
  have inX7 : ∀ w ∈ wsX70, w ∈ wsX7_moved := by decide +kernel
  have fl16 := hts (.fieldLink RX7 16 "EchoPaysRentModel" "places" "[I") (by decide +kernel)
  have fl40 := hts (.fieldLink RX7 40 "EchoPaysRentModel" "speaker" "[I") (by decide +kernel)
  refine lv_bipush (v := (iI (-4))) hx hb dX7_moved_0 (by decide) ?_
  refine lv_istore_n (lv' := [(1, .int (iI (-4))), (0, .ref rr)]) hx hb dX7_moved_2 rfl hl (by decide) rfl (fun ls hl => ?_)
  refine lv_iconst (v := (nI 0)) hx hb dX7_moved_3 (by decide) ?_
  refine lv_istore_n (lv' := [(2, .int (nI 0)), (1, .int (iI (-4))), (0, .ref rr)]) hx hb dX7_moved_4 rfl hl (by decide) rfl (fun ls hl => ?_)
  have loop5 : ∀ (nn5 : Nat) (f : Nat) (fo : Int) (lg' : Nat → Nat) (vg' : Nat → Nat), fm 0 - f < nn5 → (f ≤ fm 0) → ((fo = -4 ∧ f ≤ f0) ∨ (fo = ((100 * f0 + p0 : Nat) : Int) ∧ f0 < f)) → (-4 ≤ fo ∧ fo ≤ 1000) → ∀ (H : Heap) (locs : List Loc), va_P D vwCl [(rr, eMod ad len kp uo tm em pc0), (ad 2, eArr cI 2 fm), (ad 3, eArr cI 8 pq), (ad 4, eArr cI 8 dq), (ad 5, eArr cI 8 kq), (ad 6, eArr cI 2 ai), (ad 13, eArr cI 4 sna), (ad 7, eArr cI 4 wma), (ad 8, eArr cI 32 be), (ad 9, eArr cI 32 va), (ad 10, eArr cI 32 lo), (ad 16, eArr cI 9 ea), (ad 17, eArr cI 9 eb), (ad 18, eArr cI 9 eh), (ad 11, eArr cI 4 spa), (ad 20, eArr cI 150 lg'), (ad 21, eArr cI 150 vg')] H → va_D A [(rr, eMod ad len kp uo tm em pc0), (ad 2, eArr cI 2 fm), (ad 3, eArr cI 8 pq), (ad 4, eArr cI 8 dq), (ad 5, eArr cI 8 kq), (ad 6, eArr cI 2 ai), (ad 13, eArr cI 4 sna), (ad 7, eArr cI 4 wma), (ad 8, eArr cI 32 be), (ad 9, eArr cI 32 va), (ad 10, eArr cI 32 lo), (ad 16, eArr cI 9 ea), (ad 17, eArr cI 9 eb), (ad 18, eArr cI 9 eh), (ad 11, eArr cI 4 spa), (ad 20, eArr cI 150 lg'), (ad 21, eArr cI 150 vg')] → va_S A s.heap H locs → ∀ ls : Array Slot, lv_has ls 5 [(2, .int (nI f)), (1, .int (iI fo)), (0, .ref rr)] → W p l e (headSpec wsX7_moved ({ frames := 5, cells := 0, slots := 0, locals := 120 })).room s m ([.ref rr] : List Value).toArray below meth c H locs 0 0 (MQ below (va_Qi (fun (r : Int32) ((lg', vg') : (Nat → Nat) × (Nat → Nat)) => r = (nI (100 * f0 + p0))) (ctB D cI cC (fun ((lg', vg') : (Nat → Nat) × (Nat → Nat)) => [(rr, eMod ad len kp uo tm em pc0), (ad 2, eArr cI 2 fm), (ad 3, eArr cI 8 pq), (ad 4, eArr cI 8 dq), (ad 5, eArr cI 8 kq), (ad 6, eArr cI 2 ai), (ad 13, eArr cI 4 sna), (ad 7, eArr cI 4 wma), (ad 8, eArr cI 32 be), (ad 9, eArr cI 32 va), (ad 10, eArr cI 32 lo), (ad 16, eArr cI 9 ea), (ad 17, eArr cI 9 eb), (ad 18, eArr cI 9 eh), (ad 11, eArr cI 4 spa), (ad 20, eArr cI 150 lg'), (ad 21, eArr cI 150 vg')]) A) A) ([.ref rr] : List Value).toArray s 0 0 A) (F0 m 5 ls []) := by
    intro nn5
    induction nn5 with
    | zero =>
      intro f fo lg' vg' hm1
      exact absurd hm1 (Nat.not_lt_zero _)
    | succ nn5 ih5 =>
      intro f fo lg' vg' hm1 hi2 hfo1 hi3 H locs hP hD hS ls hl
      refine lv_iload_n hx hb dX7_moved_5 rfl (lv_at hl 0 rfl) ?_
      refine lv_aload_n hx hb dX7_moved_6 rfl (lv_at hl 2 rfl) ?_
      refine va_get (D := D) (ci := 7) (v := .ref (ad 2)) (C := RX7) (T := TX7) (N := 28) hx hb hts inX7 hown hK hP 0 rfl rfl 2 (by decide) fl13 (fun _ h9 => h9) rfl dX7_moved_7 ?_
      refine lv_iconst (v := (nI 0)) hx hb dX7_moved_10 (by decide) ?_
      refine x_iald (A := A) hx hb hK hP 1 0 rfl rfl dX7_moved_11 (by omega) (by omega) ?_
      refine x_icmp_ge (tgt := 99) hx hb dX7_moved_12 (by decide) (by omega) (by omega) (fun h4 => ?_) (fun h4 => ?_)
      · have hfe : fo = ((100 * f0 + p0 : Nat) : Int) := by omega
        rw [hfe, ← nI_iI] at hl
        refine lv_iload_n hx hb dX7_moved_99 rfl (lv_at hl 1 rfl) ?_
        exact x_iret hx hb hr hlocks dX7_moved_100 rfl (post := fun (r : Int32) ((lg', vg') : (Nat → Nat) × (Nat → Nat)) => r = (nI (100 * f0 + p0))) (w1 := fun ((lg', vg') : (Nat → Nat) × (Nat → Nat)) => [(rr, eMod ad len kp uo tm em pc0), (ad 2, eArr cI 2 fm), (ad 3, eArr cI 8 pq), (ad 4, eArr cI 8 dq), (ad 5, eArr cI 8 kq), (ad 6, eArr cI 2 ai), (ad 13, eArr cI 4 sna), (ad 7, eArr cI 4 wma), (ad 8, eArr cI 32 be), (ad 9, eArr cI 32 va), (ad 10, eArr cI 32 lo), (ad 16, eArr cI 9 ea), (ad 17, eArr cI 9 eb), (ad 18, eArr cI 9 eh), (ad 11, eArr cI 4 spa), (ad 20, eArr cI 150 lg'), (ad 21, eArr cI 150 vg')]) (lg', vg') rfl hK hP hD hS
      · refine lv_iload_n hx hb dX7_moved_15 rfl (lv_at hl 1 rfl) ?_
        refine z_if_ge (tgt := 99) hx hb dX7_moved_16 (by decide) (by omega) (fun h5 => ?_) (fun h5 => ?_)
        · have hfe : fo = ((100 * f0 + p0 : Nat) : Int) := by omega
          rw [hfe, ← nI_iI] at hl
          refine lv_iload_n hx hb dX7_moved_99 rfl (lv_at hl 1 rfl) ?_
          exact x_iret hx hb hr hlocks dX7_moved_100 rfl (post := fun (r : Int32) ((lg', vg') : (Nat → Nat) × (Nat → Nat)) => r = (nI (100 * f0 + p0))) (w1 := fun ((lg', vg') : (Nat → Nat) × (Nat → Nat)) => [(rr, eMod ad len kp uo tm em pc0), (ad 2, eArr cI 2 fm), (ad 3, eArr cI 8 pq), (ad 4, eArr cI 8 dq), (ad 5, eArr cI 8 kq), (ad 6, eArr cI 2 ai), (ad 13, eArr cI 4 sna), (ad 7, eArr cI 4 wma), (ad 8, eArr cI 32 be), (ad 9, eArr cI 32 va), (ad 10, eArr cI 32 lo), (ad 16, eArr cI 9 ea), (ad 17, eArr cI 9 eb), (ad 18, eArr cI 9 eh), (ad 11, eArr cI 4 spa), (ad 20, eArr cI 150 lg'), (ad 21, eArr cI 150 vg')]) (lg', vg') rfl hK hP hD hS
        · have hrf := hrc f (by omega)
          have hokf := hok f (by omega)
          have f6 : pq f ≤ 40 := by omega
          refine lv_aload_n hx hb dX7_moved_19 rfl (lv_at hl 2 rfl) ?_
          refine va_get (D := D) (ci := 7) (v := .ref (ad 3)) (C := RX7) (T := TX7) (N := 28) hx hb hts inX7 hown hK hP 0 rfl rfl 3 (by decide) fl16 (fun _ h9 => h9) rfl dX7_moved_20 ?_
          refine lv_iload_n hx hb dX7_moved_23 rfl (lv_at hl 0 rfl) ?_
          refine x_iald (A := A) hx hb hK hP 2 0 rfl rfl dX7_moved_24 (by omega) (by omega) ?_
          refine lv_istore_n (lv' := [(3, .int (nI (pq f))), (2, .int (nI f)), (1, .int (iI fo)), (0, .ref rr)]) hx hb dX7_moved_25 rfl hl (by decide) rfl (fun ls hl => ?_)
          refine lv_iconst (v := (nI 0)) hx hb dX7_moved_26 (by decide) ?_
          refine lv_istore (lv' := [(4, .int (nI 0)), (3, .int (nI (pq f))), (2, .int (nI f)), (1, .int (iI fo)), (0, .ref rr)]) hx hb dX7_moved_27 hl (by decide) rfl (fun ls hl => ?_)
          have loop29 : ∀ (nn29 : Nat) (y : Nat) (fi : Int) (pq' : Nat → Nat) (lg' : Nat → Nat) (vg' : Nat → Nat), 41 - y < nn29 → (y ≤ 41) → (∀ j, j ≠ f → pq' j = pq j) → ((fi = -4 ∧ (f < f0 ∨ (f = f0 ∧ y ≤ p0))) ∨ (fi = ((100 * f0 + p0 : Nat) : Int) ∧ f = f0)) → (-4 ≤ fi ∧ fi ≤ 1000) → ∀ (H : Heap) (locs : List Loc), va_P D vwCl [(rr, eMod ad len kp uo tm em pc0), (ad 2, eArr cI 2 fm), (ad 3, eArr cI 8 pq'), (ad 4, eArr cI 8 dq), (ad 5, eArr cI 8 kq), (ad 6, eArr cI 2 ai), (ad 13, eArr cI 4 sna), (ad 7, eArr cI 4 wma), (ad 8, eArr cI 32 be), (ad 9, eArr cI 32 va), (ad 10, eArr cI 32 lo), (ad 16, eArr cI 9 ea), (ad 17, eArr cI 9 eb), (ad 18, eArr cI 9 eh), (ad 11, eArr cI 4 spa), (ad 20, eArr cI 150 lg'), (ad 21, eArr cI 150 vg')] H → va_D A [(rr, eMod ad len kp uo tm em pc0), (ad 2, eArr cI 2 fm), (ad 3, eArr cI 8 pq'), (ad 4, eArr cI 8 dq), (ad 5, eArr cI 8 kq), (ad 6, eArr cI 2 ai), (ad 13, eArr cI 4 sna), (ad 7, eArr cI 4 wma), (ad 8, eArr cI 32 be), (ad 9, eArr cI 32 va), (ad 10, eArr cI 32 lo), (ad 16, eArr cI 9 ea), (ad 17, eArr cI 9 eb), (ad 18, eArr cI 9 eh), (ad 11, eArr cI 4 spa), (ad 20, eArr cI 150 lg'), (ad 21, eArr cI 150 vg')] → va_S A s.heap H locs → ∀ ls : Array Slot, lv_has ls 5 [(4, .int (nI y)), (1, .int (iI fi)), (2, .int (nI f)), (3, .int (nI (pq f))), (0, .ref rr)] → W p l e (headSpec wsX7_moved ({ frames := 5, cells := 0, slots := 0, locals := 120 })).room s m ([.ref rr] : List Value).toArray below meth c H locs 0 0 (MQ below (va_Qi (fun (r : Int32) ((lg', vg') : (Nat → Nat) × (Nat → Nat)) => r = (nI (100 * f0 + p0))) (ctB D cI cC (fun ((lg', vg') : (Nat → Nat) × (Nat → Nat)) => [(rr, eMod ad len kp uo tm em pc0), (ad 2, eArr cI 2 fm), (ad 3, eArr cI 8 pq), (ad 4, eArr cI 8 dq), (ad 5, eArr cI 8 kq), (ad 6, eArr cI 2 ai), (ad 13, eArr cI 4 sna), (ad 7, eArr cI 4 wma), (ad 8, eArr cI 32 be), (ad 9, eArr cI 32 va), (ad 10, eArr cI 32 lo), (ad 16, eArr cI 9 ea), (ad 17, eArr cI 9 eb), (ad 18, eArr cI 9 eh), (ad 11, eArr cI 4 spa), (ad 20, eArr cI 150 lg'), (ad 21, eArr cI 150 vg')]) A) A) ([.ref rr] : List Value).toArray s 0 0 A) (F0 m 29 ls []) := by
            intro nn29
            induction nn29 with
            | zero =>
              intro y fi pq' lg' vg' hm7
              exact absurd hm7 (Nat.not_lt_zero _)
            | succ nn29 ih29 =>
              intro y fi pq' lg' vg' hm7 hi8 hpq hfo2 hi9 H locs hP hD hS ls hl
              refine lv_iload hx hb dX7_moved_29 (lv_at hl 0 rfl) ?_
              refine lv_bipush (v := (nI 40)) hx hb dX7_moved_31 (by decide) ?_
              refine x_icmp_gt (tgt := 86) hx hb dX7_moved_33 (by decide) (by omega) (by omega) (fun h10 => ?_) (fun h10 => ?_)
              · refine lv_aload_n hx hb dX7_moved_86 rfl (lv_at hl 4 rfl) ?_
                refine va_get (D := D) (ci := 7) (v := .ref (ad 3)) (C := RX7) (T := TX7) (N := 28) hx hb hts inX7 hown hK hP 0 rfl rfl 3 (by decide) fl16 (fun _ h9 => h9) rfl dX7_moved_87 ?_
                refine lv_iload_n hx hb dX7_moved_90 rfl (lv_at hl 2 rfl) ?_
                refine lv_iload_n hx hb dX7_moved_91 rfl (lv_at hl 3 rfl) ?_
                refine x_iast (A := A) hx hb hK hP hD hS 2 0 rfl rfl dX7_moved_92 (by omega) (by omega) (fun H locs hP hD hS => ?_)
                have hP : va_P D vwCl [(rr, eMod ad len kp uo tm em pc0), (ad 2, eArr cI 2 fm), (ad 3, eArr cI 8 (upN pq' f (pq f))), (ad 4, eArr cI 8 dq), (ad 5, eArr cI 8 kq), (ad 6, eArr cI 2 ai), (ad 13, eArr cI 4 sna), (ad 7, eArr cI 4 wma), (ad 8, eArr cI 32 be), (ad 9, eArr cI 32 va), (ad 10, eArr cI 32 lo), (ad 16, eArr cI 9 ea), (ad 17, eArr cI 9 eb), (ad 18, eArr cI 9 eh), (ad 11, eArr cI 4 spa), (ad 20, eArr cI 150 lg'), (ad 21, eArr cI 150 vg')] H := by have h := hP; rw [upd_nI] at h; exact h
                have hD : va_D A [(rr, eMod ad len kp uo tm em pc0), (ad 2, eArr cI 2 fm), (ad 3, eArr cI 8 (upN pq' f (pq f))), (ad 4, eArr cI 8 dq), (ad 5, eArr cI 8 kq), (ad 6, eArr cI 2 ai), (ad 13, eArr cI 4 sna), (ad 7, eArr cI 4 wma), (ad 8, eArr cI 32 be), (ad 9, eArr cI 32 va), (ad 10, eArr cI 32 lo), (ad 16, eArr cI 9 ea), (ad 17, eArr cI 9 eb), (ad 18, eArr cI 9 eh), (ad 11, eArr cI 4 spa), (ad 20, eArr cI 150 lg'), (ad 21, eArr cI 150 vg')] := by have h := hD; rw [upd_nI] at h; exact h
                have hP := va_P_arr (g' := pq) hP 2 rfl (fun j hj => by by_cases e : j = f; rw [e, upN_s]; rw [upN_n e]; exact hpq j e)
                have hD := hD.set (p := 2) (e := eArr cI 8 pq) rfl
                have hP : va_P D vwCl [(rr, eMod ad len kp uo tm em pc0), (ad 2, eArr cI 2 fm), (ad 3, eArr cI 8 pq), (ad 4, eArr cI 8 dq), (ad 5, eArr cI 8 kq), (ad 6, eArr cI 2 ai), (ad 13, eArr cI 4 sna), (ad 7, eArr cI 4 wma), (ad 8, eArr cI 32 be), (ad 9, eArr cI 32 va), (ad 10, eArr cI 32 lo), (ad 16, eArr cI 9 ea), (ad 17, eArr cI 9 eb), (ad 18, eArr cI 9 eh), (ad 11, eArr cI 4 spa), (ad 20, eArr cI 150 lg'), (ad 21, eArr cI 150 vg')] H := hP
                have hD : va_D A [(rr, eMod ad len kp uo tm em pc0), (ad 2, eArr cI 2 fm), (ad 3, eArr cI 8 pq), (ad 4, eArr cI 8 dq), (ad 5, eArr cI 8 kq), (ad 6, eArr cI 2 ai), (ad 13, eArr cI 4 sna), (ad 7, eArr cI 4 wma), (ad 8, eArr cI 32 be), (ad 9, eArr cI 32 va), (ad 10, eArr cI 32 lo), (ad 16, eArr cI 9 ea), (ad 17, eArr cI 9 eb), (ad 18, eArr cI 9 eh), (ad 11, eArr cI 4 spa), (ad 20, eArr cI 150 lg'), (ad 21, eArr cI 150 vg')] := hD
                refine lv_iinc (v := (nI (f + 1))) (lv' := [(2, .int (nI (f + 1))), (4, .int (nI y)), (1, .int (iI fi)), (3, .int (nI (pq f))), (0, .ref rr)]) hx hb dX7_moved_93 hl (k := 2) rfl (nI_inc _ 1) (by decide) rfl (fun ls hl => ?_)
                refine lv_goto (tgt := 5) hx hb dX7_moved_96 (by decide) ?_
                exact ih5 (f + 1) fi lg' vg' (by omega) (by omega) (by omega) (by omega) _ _ (hP.sub [0, 1, 2, 3, 4, 5, 6, 7, 8, 9, 10, 11, 12, 13, 14, 15, 16] rfl) (hD.sub [0, 1, 2, 3, 4, 5, 6, 7, 8, 9, 10, 11, 12, 13, 14, 15, 16] rfl rfl) hS _ (lv_sub hl [0, 2, 4] rfl)
              · refine lv_iload_n hx hb dX7_moved_36 rfl (lv_at hl 1 rfl) ?_
                refine z_if_ge (tgt := 86) hx hb dX7_moved_37 (by decide) (by omega) (fun h11 => ?_) (fun h11 => ?_)
                · refine lv_aload_n hx hb dX7_moved_86 rfl (lv_at hl 4 rfl) ?_
                  refine va_get (D := D) (ci := 7) (v := .ref (ad 3)) (C := RX7) (T := TX7) (N := 28) hx hb hts inX7 hown hK hP 0 rfl rfl 3 (by decide) fl16 (fun _ h9 => h9) rfl dX7_moved_87 ?_
                  refine lv_iload_n hx hb dX7_moved_90 rfl (lv_at hl 2 rfl) ?_
                  refine lv_iload_n hx hb dX7_moved_91 rfl (lv_at hl 3 rfl) ?_
                  refine x_iast (A := A) hx hb hK hP hD hS 2 0 rfl rfl dX7_moved_92 (by omega) (by omega) (fun H locs hP hD hS => ?_)
                  have hP : va_P D vwCl [(rr, eMod ad len kp uo tm em pc0), (ad 2, eArr cI 2 fm), (ad 3, eArr cI 8 (upN pq' f (pq f))), (ad 4, eArr cI 8 dq), (ad 5, eArr cI 8 kq), (ad 6, eArr cI 2 ai), (ad 13, eArr cI 4 sna), (ad 7, eArr cI 4 wma), (ad 8, eArr cI 32 be), (ad 9, eArr cI 32 va), (ad 10, eArr cI 32 lo), (ad 16, eArr cI 9 ea), (ad 17, eArr cI 9 eb), (ad 18, eArr cI 9 eh), (ad 11, eArr cI 4 spa), (ad 20, eArr cI 150 lg'), (ad 21, eArr cI 150 vg')] H := by have h := hP; rw [upd_nI] at h; exact h
                  have hD : va_D A [(rr, eMod ad len kp uo tm em pc0), (ad 2, eArr cI 2 fm), (ad 3, eArr cI 8 (upN pq' f (pq f))), (ad 4, eArr cI 8 dq), (ad 5, eArr cI 8 kq), (ad 6, eArr cI 2 ai), (ad 13, eArr cI 4 sna), (ad 7, eArr cI 4 wma), (ad 8, eArr cI 32 be), (ad 9, eArr cI 32 va), (ad 10, eArr cI 32 lo), (ad 16, eArr cI 9 ea), (ad 17, eArr cI 9 eb), (ad 18, eArr cI 9 eh), (ad 11, eArr cI 4 spa), (ad 20, eArr cI 150 lg'), (ad 21, eArr cI 150 vg')] := by have h := hD; rw [upd_nI] at h; exact h
                  have hP := va_P_arr (g' := pq) hP 2 rfl (fun j hj => by by_cases e : j = f; rw [e, upN_s]; rw [upN_n e]; exact hpq j e)
                  have hD := hD.set (p := 2) (e := eArr cI 8 pq) rfl
                  have hP : va_P D vwCl [(rr, eMod ad len kp uo tm em pc0), (ad 2, eArr cI 2 fm), (ad 3, eArr cI 8 pq), (ad 4, eArr cI 8 dq), (ad 5, eArr cI 8 kq), (ad 6, eArr cI 2 ai), (ad 13, eArr cI 4 sna), (ad 7, eArr cI 4 wma), (ad 8, eArr cI 32 be), (ad 9, eArr cI 32 va), (ad 10, eArr cI 32 lo), (ad 16, eArr cI 9 ea), (ad 17, eArr cI 9 eb), (ad 18, eArr cI 9 eh), (ad 11, eArr cI 4 spa), (ad 20, eArr cI 150 lg'), (ad 21, eArr cI 150 vg')] H := hP
                  have hD : va_D A [(rr, eMod ad len kp uo tm em pc0), (ad 2, eArr cI 2 fm), (ad 3, eArr cI 8 pq), (ad 4, eArr cI 8 dq), (ad 5, eArr cI 8 kq), (ad 6, eArr cI 2 ai), (ad 13, eArr cI 4 sna), (ad 7, eArr cI 4 wma), (ad 8, eArr cI 32 be), (ad 9, eArr cI 32 va), (ad 10, eArr cI 32 lo), (ad 16, eArr cI 9 ea), (ad 17, eArr cI 9 eb), (ad 18, eArr cI 9 eh), (ad 11, eArr cI 4 spa), (ad 20, eArr cI 150 lg'), (ad 21, eArr cI 150 vg')] := hD
                  refine lv_iinc (v := (nI (f + 1))) (lv' := [(2, .int (nI (f + 1))), (4, .int (nI y)), (1, .int (iI fi)), (3, .int (nI (pq f))), (0, .ref rr)]) hx hb dX7_moved_93 hl (k := 2) rfl (nI_inc _ 1) (by decide) rfl (fun ls hl => ?_)
                  refine lv_goto (tgt := 5) hx hb dX7_moved_96 (by decide) ?_
                  exact ih5 (f + 1) fi lg' vg' (by omega) (by omega) (by omega) (by omega) _ _ (hP.sub [0, 1, 2, 3, 4, 5, 6, 7, 8, 9, 10, 11, 12, 13, 14, 15, 16] rfl) (hD.sub [0, 1, 2, 3, 4, 5, 6, 7, 8, 9, 10, 11, 12, 13, 14, 15, 16] rfl rfl) hS _ (lv_sub hl [0, 2, 4] rfl)
                · refine lv_aload_n hx hb dX7_moved_40 rfl (lv_at hl 4 rfl) ?_
                  refine va_get (D := D) (ci := 7) (v := .ref (ad 3)) (C := RX7) (T := TX7) (N := 28) hx hb hts inX7 hown hK hP 0 rfl rfl 3 (by decide) fl16 (fun _ h9 => h9) rfl dX7_moved_41 ?_
                  refine lv_iload_n hx hb dX7_moved_44 rfl (lv_at hl 2 rfl) ?_
                  refine lv_iload hx hb dX7_moved_45 (lv_at hl 0 rfl) ?_
                  refine x_iast (A := A) hx hb hK hP hD hS 2 0 rfl rfl dX7_moved_47 (by omega) (by omega) (fun H locs hP hD hS => ?_)
                  have hP : va_P D vwCl [(rr, eMod ad len kp uo tm em pc0), (ad 2, eArr cI 2 fm), (ad 3, eArr cI 8 (upN pq' f y)), (ad 4, eArr cI 8 dq), (ad 5, eArr cI 8 kq), (ad 6, eArr cI 2 ai), (ad 13, eArr cI 4 sna), (ad 7, eArr cI 4 wma), (ad 8, eArr cI 32 be), (ad 9, eArr cI 32 va), (ad 10, eArr cI 32 lo), (ad 16, eArr cI 9 ea), (ad 17, eArr cI 9 eb), (ad 18, eArr cI 9 eh), (ad 11, eArr cI 4 spa), (ad 20, eArr cI 150 lg'), (ad 21, eArr cI 150 vg')] H := by have h := hP; rw [upd_nI] at h; exact h
                  have hD : va_D A [(rr, eMod ad len kp uo tm em pc0), (ad 2, eArr cI 2 fm), (ad 3, eArr cI 8 (upN pq' f y)), (ad 4, eArr cI 8 dq), (ad 5, eArr cI 8 kq), (ad 6, eArr cI 2 ai), (ad 13, eArr cI 4 sna), (ad 7, eArr cI 4 wma), (ad 8, eArr cI 32 be), (ad 9, eArr cI 32 va), (ad 10, eArr cI 32 lo), (ad 16, eArr cI 9 ea), (ad 17, eArr cI 9 eb), (ad 18, eArr cI 9 eh), (ad 11, eArr cI 4 spa), (ad 20, eArr cI 150 lg'), (ad 21, eArr cI 150 vg')] := by have h := hD; rw [upd_nI] at h; exact h
                  refine lv_iload hx hb dX7_moved_48 (lv_at hl 0 rfl) ?_
                  refine lv_iload_n hx hb dX7_moved_50 rfl (lv_at hl 3 rfl) ?_
                  refine x_icmp_eq (tgt := 77) hx hb dX7_moved_51 (by decide) (by omega) (by omega) (fun h12 => ?_) (fun h12 => ?_)
                  · have hmg : movG cl (fm 0) (ai 0) (sna 0) wd (wma 0) eg em (spa 0) f y = false := by unfold movG; rw [decide_eq_false (fun hh => hh (by omega))]; rfl
                    have hne2 : f < f0 ∨ y < p0 := by apply Classical.byContradiction; intro hc; have e1 : f = f0 := (by omega); have e2 : y = p0 := (by omega); rw [e1, e2, htr] at hmg; exact absurd hmg (by decide)
                    refine lv_bipush (v := (iI (-4))) hx hb dX7_moved_77 (by decide) ?_
                    refine lv_istore_n (lv' := [(1, .int (iI (-4))), (4, .int (nI y)), (2, .int (nI f)), (3, .int (nI (pq f))), (0, .ref rr)]) hx hb dX7_moved_79 rfl hl (by decide) rfl (fun ls hl => ?_)
                    refine lv_iinc (v := (nI (y + 1))) (lv' := [(4, .int (nI (y + 1))), (1, .int (iI (-4))), (2, .int (nI f)), (3, .int (nI (pq f))), (0, .ref rr)]) hx hb dX7_moved_80 hl (k := 1) rfl (nI_inc _ 1) (by decide) rfl (fun ls hl => ?_)
                    refine lv_goto (tgt := 29) hx hb dX7_moved_83 (by decide) ?_
                    exact ih29 (y + 1) (-4) (upN pq' f y) lg' vg' (by omega) (by omega) (fun j hj => by rw [upN_n hj]; exact hpq j hj) (by omega) (by omega) _ _ (hP.sub [0, 1, 2, 3, 4, 5, 6, 7, 8, 9, 10, 11, 12, 13, 14, 15, 16] rfl) (hD.sub [0, 1, 2, 3, 4, 5, 6, 7, 8, 9, 10, 11, 12, 13, 14, 15, 16] rfl rfl) hS _ (lv_sub hl [0, 1, 2, 3, 4] rfl)
                  · refine lv_aload_n hx hb dX7_moved_54 rfl (lv_at hl 4 rfl) ?_
                    refine lv_aload_n hx hb dX7_moved_55 rfl (lv_at hl 4 rfl) ?_
                    refine va_get (D := D) (ci := 7) (v := .ref (ad 11)) (C := RX7) (T := TX7) (N := 28) hx hb hts inX7 hown hK hP 0 rfl rfl 11 (by decide) fl40 (fun _ h9 => h9) rfl dX7_moved_56 ?_
                    refine lv_iconst (v := (nI 0)) hx hb dX7_moved_59 (by decide) ?_
                    refine x_iald (A := A) hx hb hK hP 14 0 rfl rfl dX7_moved_60 (by omega) (by omega) ?_
                    refine k_V (q := (RX7, TX7, 28)) (ci := 7) (As := [.int (nI (spa 0))]) (wr := [(ad 11, eArr cI 4 spa)]) ⟨hx, hb, hml, hown, hts⟩ (c_X7_isHeardSo l D cI cC rr ad len kp uo tm em pc0 fm (upN pq' f y) dq kq ai sna wma be va lo ea eb eh lg' vg' (upN cl (3 * f + 0) y) (relC_mv hrc hpq) (okC_mv hok (by omega)) (by omega) wd hrd hokd (by omega) eg hre (by omega) hoe (spa 0) (by omega)) (cwV 1 hts gX7_moved_X7_isHeardSo rfl rfl rfl (by decide +kernel) ⟨Nat.le_of_ble_eq_true rfl, Nat.le_of_ble_eq_true rfl⟩) rfl hl.1 rfl (Nat.le_of_ble_eq_true rfl) dX7_moved_61 ⟨Nat.zero_le _, Nat.zero_le _⟩ hN hK hP hD hS hA rfl (q0 := 0) rfl [0, 1, 2, 3, 4, 5, 6, 7, 8, 9, 10, 11, 12, 13, 15, 16] [14] rfl rfl ⟨rfl, rfl, by decide⟩ (fun r13 u H locs w16 hP hD hS => ?_)
                    obtain ⟨lg'14, vg'15⟩ := u
                    obtain ⟨rfl, h17⟩ | ⟨rfl, h18⟩ : (r13 = (nI 1) ∧ asM (upN cl (3 * f + 0) y) (fm 0) (ai 0) (sna 0) wd (wma 0) eg em (spa 0) = true) ∨ (r13 = (nI 0) ∧ asM (upN cl (3 * f + 0) y) (fm 0) (ai 0) (sna 0) wd (wma 0) eg em (spa 0) = false) := w16
                    · have hmg : movG cl (fm 0) (ai 0) (sna 0) wd (wma 0) eg em (spa 0) f y = true := by unfold movG; rw [h17, decide_eq_true (by omega)]; rfl
                      have hff : f = f0 := by apply Classical.byContradiction; intro hc; exact absurd hmg (by rw [hb1 f (by omega) y (by omega)]; decide)
                      have hyy : y = p0 := by apply Classical.byContradiction; intro hc; rw [hff] at hmg; exact absurd hmg (by rw [hb2 y (by omega)]; decide)
                      refine x_if_eq (tgt := 77) hx hb dX7_moved_64 (by decide) (by omega) (fun h19 => False.elim (by omega)) (fun h19 => ?_)
                      refine lv_bipush (v := (nI 100)) hx hb dX7_moved_67 (by decide) ?_
                      refine lv_iload_n hx hb dX7_moved_69 rfl (lv_at hl 2 rfl) ?_
                      refine x_imul hx hb dX7_moved_70 ?_
                      refine lv_iload hx hb dX7_moved_71 (lv_at hl 0 rfl) ?_
                      refine x_iadd hx hb dX7_moved_73 ?_
                      refine lv_goto (tgt := 79) hx hb dX7_moved_74 (by decide) ?_
                      refine lv_istore_n (lv' := [(1, .int (nI (100 * f + y))), (4, .int (nI y)), (2, .int (nI f)), (3, .int (nI (pq f))), (0, .ref rr)]) hx hb dX7_moved_79 rfl hl (by decide) rfl (fun ls hl => ?_)
                      refine lv_iinc (v := (nI (y + 1))) (lv' := [(4, .int (nI (y + 1))), (1, .int (nI (100 * f + y))), (2, .int (nI f)), (3, .int (nI (pq f))), (0, .ref rr)]) hx hb dX7_moved_80 hl (k := 1) rfl (nI_inc _ 1) (by decide) rfl (fun ls hl => ?_)
                      refine lv_goto (tgt := 29) hx hb dX7_moved_83 (by decide) ?_
                      rw [show (nI (100 * f + y)) = (iI (((100 * f + y : Nat) : Int))) from nI_iI _] at hl
                      exact ih29 (y + 1) (((100 * f + y : Nat) : Int)) (upN pq' f y) lg'14 vg'15 (by omega) (by omega) (fun j hj => by rw [upN_n hj]; exact hpq j hj) (by omega) (by omega) _ _ (hP.sub [1, 2, 3, 4, 5, 6, 7, 8, 9, 10, 11, 12, 13, 14, 0, 15, 16] rfl) (hD.sub [1, 2, 3, 4, 5, 6, 7, 8, 9, 10, 11, 12, 13, 14, 0, 15, 16] rfl rfl) hS _ (lv_sub hl [0, 1, 2, 3, 4] rfl)
                    · have hmg : movG cl (fm 0) (ai 0) (sna 0) wd (wma 0) eg em (spa 0) f y = false := by unfold movG; rw [h18, decide_eq_true (by omega)]; rfl
                      have hne2 : f < f0 ∨ y < p0 := by apply Classical.byContradiction; intro hc; have e1 : f = f0 := (by omega); have e2 : y = p0 := (by omega); rw [e1, e2, htr] at hmg; exact absurd hmg (by decide)
                      refine x_if_eq (tgt := 77) hx hb dX7_moved_64 (by decide) (by omega) (fun h20 => ?_) (fun h20 => False.elim (by omega))
                      refine lv_bipush (v := (iI (-4))) hx hb dX7_moved_77 (by decide) ?_
                      refine lv_istore_n (lv' := [(1, .int (iI (-4))), (4, .int (nI y)), (2, .int (nI f)), (3, .int (nI (pq f))), (0, .ref rr)]) hx hb dX7_moved_79 rfl hl (by decide) rfl (fun ls hl => ?_)
                      refine lv_iinc (v := (nI (y + 1))) (lv' := [(4, .int (nI (y + 1))), (1, .int (iI (-4))), (2, .int (nI f)), (3, .int (nI (pq f))), (0, .ref rr)]) hx hb dX7_moved_80 hl (k := 1) rfl (nI_inc _ 1) (by decide) rfl (fun ls hl => ?_)
                      refine lv_goto (tgt := 29) hx hb dX7_moved_83 (by decide) ?_
                      exact ih29 (y + 1) (-4) (upN pq' f y) lg'14 vg'15 (by omega) (by omega) (fun j hj => by rw [upN_n hj]; exact hpq j hj) (by omega) (by omega) _ _ (hP.sub [1, 2, 3, 4, 5, 6, 7, 8, 9, 10, 11, 12, 13, 14, 0, 15, 16] rfl) (hD.sub [1, 2, 3, 4, 5, 6, 7, 8, 9, 10, 11, 12, 13, 14, 0, 15, 16] rfl rfl) hS _ (lv_sub hl [0, 1, 2, 3, 4] rfl)
          exact loop29 _ 0 fo pq lg' vg' (Nat.lt_succ_self _) (by omega) (fun j hj => rfl) (by omega) (by omega) _ _ (hP.sub [0, 1, 2, 3, 4, 5, 6, 7, 8, 9, 10, 11, 12, 13, 14, 15, 16] rfl) (hD.sub [0, 1, 2, 3, 4, 5, 6, 7, 8, 9, 10, 11, 12, 13, 14, 15, 16] rfl rfl) hS _ (lv_sub hl [0, 3, 2, 1, 4] rfl)
  exact loop5 _ 0 (-4) lg vg (Nat.lt_succ_self _) (by omega) (by omega) (by omega) _ _ (hP.sub [0, 1, 2, 3, 4, 5, 6, 7, 8, 9, 10, 11, 12, 13, 14, 15, 16] rfl) (hD.sub [0, 1, 2, 3, 4, 5, 6, 7, 8, 9, 10, 11, 12, 13, 14, 15, 16] rfl rfl) hS _ (lv_sub hl [0, 1, 2] rfl)

set_option maxRecDepth 100000 in
set_option maxHeartbeats 4000000 in
theorem c_X7_moved_none (l : Launch) (D : va_G) (cI cC : ClassId) (rr : Nat) (ad : Nat → Nat) (len : Nat) (kp : Nat) (uo : Nat) (tm : Nat) (em : Nat) (pc0 : Nat) (fm : Nat → Nat) (pq : Nat → Nat) (dq : Nat → Nat) (kq : Nat → Nat) (ai : Nat → Nat) (sna : Nat → Nat) (wma : Nat → Nat) (be : Nat → Nat) (va : Nat → Nat) (lo : Nat → Nat) (ea : Nat → Nat) (eb : Nat → Nat) (eh : Nat → Nat) (lg : Nat → Nat) (vg : Nat → Nat) (cl : Nat → Nat) (hrc : relC pq dq kq cl (fm 0)) (hok : okC cl (fm 0)) (hfm : fm 0 ≤ 4 ∧ ai 0 ≤ 99 ∧ sna 0 < 2147483648) (wd : Nat → Nat) (hrd : relD be va lo wd (wma 0)) (hokd : okD wd (wma 0)) (hnw : wma 0 ≤ 8) (eg : Nat → Nat) (hre : relE ea eb eh eg em) (hem : em ≤ 9) (hoe : ∀ i, i < em → eg (3 * i + 0) ≤ 40 ∧ eg (3 * i + 1) ≤ 149 ∧ eg (3 * i + 2) ≤ 8) (spa : Nat → Nat) (hsp : spa 0 ≤ 40) (hb1 : ∀ f, f < fm 0 → ∀ y, y ≤ 40 → movG cl (fm 0) (ai 0) (sna 0) wd (wma 0) eg em (spa 0) f y = false) : mtI l D cI cC yX7_moved wsX7_moved ({ frames := 5, cells := 0, slots := 0, locals := 120 }) [.ref rr] [(rr, eMod ad len kp uo tm em pc0), (ad 2, eArr cI 2 fm), (ad 3, eArr cI 8 pq), (ad 4, eArr cI 8 dq), (ad 5, eArr cI 8 kq), (ad 6, eArr cI 2 ai), (ad 13, eArr cI 4 sna), (ad 7, eArr cI 4 wma), (ad 8, eArr cI 32 be), (ad 9, eArr cI 32 va), (ad 10, eArr cI 32 lo), (ad 16, eArr cI 9 ea), (ad 17, eArr cI 9 eb), (ad 18, eArr cI 9 eh), (ad 11, eArr cI 4 spa), (ad 20, eArr cI 150 lg), (ad 21, eArr cI 150 vg)] (fun (r : Int32) ((lg', vg') : (Nat → Nat) × (Nat → Nat)) => r = (iI (-4))) (fun ((lg', vg') : (Nat → Nat) × (Nat → Nat)) => [(rr, eMod ad len kp uo tm em pc0), (ad 2, eArr cI 2 fm), (ad 3, eArr cI 8 pq), (ad 4, eArr cI 8 dq), (ad 5, eArr cI 8 kq), (ad 6, eArr cI 2 ai), (ad 13, eArr cI 4 sna), (ad 7, eArr cI 4 wma), (ad 8, eArr cI 32 be), (ad 9, eArr cI 32 va), (ad 10, eArr cI 32 lo), (ad 16, eArr cI 9 ea), (ad 17, eArr cI 9 eb), (ad 18, eArr cI 9 eh), (ad 11, eArr cI 4 spa), (ad 20, eArr cI 150 lg'), (ad 21, eArr cI 150 vg')]) := by
  refine mtI_of (cc := cX7_moved) (maxL := 5) (ret := (some .int)) (by decide) rfl rfl ?_
  intro p e s m below meth c A hx hb hml hr hts hown hlocks hN hA hK hP hD hS ls hl
  have hown : s.vm.findClass RX7 = some m.cls := hown
  have hl : lv_has ls 5 [(0, .ref rr)] := hl
  obtain ⟨H, hHe⟩ : ∃ H, H = s.heap := ⟨_, rfl⟩
  rw [← hHe] at hP ⊢
  have hS : va_S A s.heap H [] := by rw [hHe]; exact va_S.rf
  have fl13 := hts (.fieldLink RX7 13 "EchoPaysRentModel" "faceMany" "[I") (by decide +kernel)
  have inX7 : ∀ w ∈ wsX70, w ∈ wsX7_moved := by decide +kernel
  have fl16 := hts (.fieldLink RX7 16 "EchoPaysRentModel" "places" "[I") (by decide +kernel)
  have fl40 := hts (.fieldLink RX7 40 "EchoPaysRentModel" "speaker" "[I") (by decide +kernel)
  refine lv_bipush (v := (iI (-4))) hx hb dX7_moved_0 (by decide) ?_
  refine lv_istore_n (lv' := [(1, .int (iI (-4))), (0, .ref rr)]) hx hb dX7_moved_2 rfl hl (by decide) rfl (fun ls hl => ?_)
  refine lv_iconst (v := (nI 0)) hx hb dX7_moved_3 (by decide) ?_
  refine lv_istore_n (lv' := [(2, .int (nI 0)), (1, .int (iI (-4))), (0, .ref rr)]) hx hb dX7_moved_4 rfl hl (by decide) rfl (fun ls hl => ?_)
  have loop5 : ∀ (nn5 : Nat) (f : Nat) (fo : Int) (lg' : Nat → Nat) (vg' : Nat → Nat), fm 0 - f < nn5 → (f ≤ fm 0) → (fo = -4) → (-4 ≤ fo ∧ fo ≤ 1000) → ∀ (H : Heap) (locs : List Loc), va_P D vwCl [(rr, eMod ad len kp uo tm em pc0), (ad 2, eArr cI 2 fm), (ad 3, eArr cI 8 pq), (ad 4, eArr cI 8 dq), (ad 5, eArr cI 8 kq), (ad 6, eArr cI 2 ai), (ad 13, eArr cI 4 sna), (ad 7, eArr cI 4 wma), (ad 8, eArr cI 32 be), (ad 9, eArr cI 32 va), (ad 10, eArr cI 32 lo), (ad 16, eArr cI 9 ea), (ad 17, eArr cI 9 eb), (ad 18, eArr cI 9 eh), (ad 11, eArr cI 4 spa), (ad 20, eArr cI 150 lg'), (ad 21, eArr cI 150 vg')] H → va_D A [(rr, eMod ad len kp uo tm em pc0), (ad 2, eArr cI 2 fm), (ad 3, eArr cI 8 pq), (ad 4, eArr cI 8 dq), (ad 5, eArr cI 8 kq), (ad 6, eArr cI 2 ai), (ad 13, eArr cI 4 sna), (ad 7, eArr cI 4 wma), (ad 8, eArr cI 32 be), (ad 9, eArr cI 32 va), (ad 10, eArr cI 32 lo), (ad 16, eArr cI 9 ea), (ad 17, eArr cI 9 eb), (ad 18, eArr cI 9 eh), (ad 11, eArr cI 4 spa), (ad 20, eArr cI 150 lg'), (ad 21, eArr cI 150 vg')] → va_S A s.heap H locs → ∀ ls : Array Slot, lv_has ls 5 [(2, .int (nI f)), (1, .int (iI fo)), (0, .ref rr)] → W p l e (headSpec wsX7_moved ({ frames := 5, cells := 0, slots := 0, locals := 120 })).room s m ([.ref rr] : List Value).toArray below meth c H locs 0 0 (MQ below (va_Qi (fun (r : Int32) ((lg', vg') : (Nat → Nat) × (Nat → Nat)) => r = (iI (-4))) (ctB D cI cC (fun ((lg', vg') : (Nat → Nat) × (Nat → Nat)) => [(rr, eMod ad len kp uo tm em pc0), (ad 2, eArr cI 2 fm), (ad 3, eArr cI 8 pq), (ad 4, eArr cI 8 dq), (ad 5, eArr cI 8 kq), (ad 6, eArr cI 2 ai), (ad 13, eArr cI 4 sna), (ad 7, eArr cI 4 wma), (ad 8, eArr cI 32 be), (ad 9, eArr cI 32 va), (ad 10, eArr cI 32 lo), (ad 16, eArr cI 9 ea), (ad 17, eArr cI 9 eb), (ad 18, eArr cI 9 eh), (ad 11, eArr cI 4 spa), (ad 20, eArr cI 150 lg'), (ad 21, eArr cI 150 vg')]) A) A) ([.ref rr] : List Value).toArray s 0 0 A) (F0 m 5 ls []) := by
    intro nn5
    induction nn5 with
    | zero =>
      intro f fo lg' vg' hm1
      exact absurd hm1 (Nat.not_lt_zero _)
    | succ nn5 ih5 =>
      intro f fo lg' vg' hm1 hi2 hfo1 hi3 H locs hP hD hS ls hl
      refine lv_iload_n hx hb dX7_moved_5 rfl (lv_at hl 0 rfl) ?_
      refine lv_aload_n hx hb dX7_moved_6 rfl (lv_at hl 2 rfl) ?_
      refine va_get (D := D) (ci := 7) (v := .ref (ad 2)) (C := RX7) (T := TX7) (N := 28) hx hb hts inX7 hown hK hP 0 rfl rfl 2 (by decide) fl13 (fun _ h9 => h9) rfl dX7_moved_7 ?_
      refine lv_iconst (v := (nI 0)) hx hb dX7_moved_10 (by decide) ?_
      refine x_iald (A := A) hx hb hK hP 1 0 rfl rfl dX7_moved_11 (by omega) (by omega) ?_
      refine x_icmp_ge (tgt := 99) hx hb dX7_moved_12 (by decide) (by omega) (by omega) (fun h4 => ?_) (fun h4 => ?_)
      · have hfe : fo = -4 := by omega
        rw [hfe] at hl
        refine lv_iload_n hx hb dX7_moved_99 rfl (lv_at hl 1 rfl) ?_
        exact x_iret hx hb hr hlocks dX7_moved_100 rfl (post := fun (r : Int32) ((lg', vg') : (Nat → Nat) × (Nat → Nat)) => r = (iI (-4))) (w1 := fun ((lg', vg') : (Nat → Nat) × (Nat → Nat)) => [(rr, eMod ad len kp uo tm em pc0), (ad 2, eArr cI 2 fm), (ad 3, eArr cI 8 pq), (ad 4, eArr cI 8 dq), (ad 5, eArr cI 8 kq), (ad 6, eArr cI 2 ai), (ad 13, eArr cI 4 sna), (ad 7, eArr cI 4 wma), (ad 8, eArr cI 32 be), (ad 9, eArr cI 32 va), (ad 10, eArr cI 32 lo), (ad 16, eArr cI 9 ea), (ad 17, eArr cI 9 eb), (ad 18, eArr cI 9 eh), (ad 11, eArr cI 4 spa), (ad 20, eArr cI 150 lg'), (ad 21, eArr cI 150 vg')]) (lg', vg') rfl hK hP hD hS
      · refine lv_iload_n hx hb dX7_moved_15 rfl (lv_at hl 1 rfl) ?_
        refine z_if_ge (tgt := 99) hx hb dX7_moved_16 (by decide) (by omega) (fun h5 => False.elim (by omega)) (fun h5 => ?_)
        have hrf := hrc f (by omega)
        have hokf := hok f (by omega)
        have f6 : pq f ≤ 40 := by omega
        refine lv_aload_n hx hb dX7_moved_19 rfl (lv_at hl 2 rfl) ?_
        refine va_get (D := D) (ci := 7) (v := .ref (ad 3)) (C := RX7) (T := TX7) (N := 28) hx hb hts inX7 hown hK hP 0 rfl rfl 3 (by decide) fl16 (fun _ h9 => h9) rfl dX7_moved_20 ?_
        refine lv_iload_n hx hb dX7_moved_23 rfl (lv_at hl 0 rfl) ?_
        refine x_iald (A := A) hx hb hK hP 2 0 rfl rfl dX7_moved_24 (by omega) (by omega) ?_
        refine lv_istore_n (lv' := [(3, .int (nI (pq f))), (2, .int (nI f)), (1, .int (iI fo)), (0, .ref rr)]) hx hb dX7_moved_25 rfl hl (by decide) rfl (fun ls hl => ?_)
        refine lv_iconst (v := (nI 0)) hx hb dX7_moved_26 (by decide) ?_
        refine lv_istore (lv' := [(4, .int (nI 0)), (3, .int (nI (pq f))), (2, .int (nI f)), (1, .int (iI fo)), (0, .ref rr)]) hx hb dX7_moved_27 hl (by decide) rfl (fun ls hl => ?_)
        have loop29 : ∀ (nn29 : Nat) (y : Nat) (fi : Int) (pq' : Nat → Nat) (lg' : Nat → Nat) (vg' : Nat → Nat), 41 - y < nn29 → (y ≤ 41) → (∀ j, j ≠ f → pq' j = pq j) → (fi = -4) → (-4 ≤ fi ∧ fi ≤ 1000) → ∀ (H : Heap) (locs : List Loc), va_P D vwCl [(rr, eMod ad len kp uo tm em pc0), (ad 2, eArr cI 2 fm), (ad 3, eArr cI 8 pq'), (ad 4, eArr cI 8 dq), (ad 5, eArr cI 8 kq), (ad 6, eArr cI 2 ai), (ad 13, eArr cI 4 sna), (ad 7, eArr cI 4 wma), (ad 8, eArr cI 32 be), (ad 9, eArr cI 32 va), (ad 10, eArr cI 32 lo), (ad 16, eArr cI 9 ea), (ad 17, eArr cI 9 eb), (ad 18, eArr cI 9 eh), (ad 11, eArr cI 4 spa), (ad 20, eArr cI 150 lg'), (ad 21, eArr cI 150 vg')] H → va_D A [(rr, eMod ad len kp uo tm em pc0), (ad 2, eArr cI 2 fm), (ad 3, eArr cI 8 pq'), (ad 4, eArr cI 8 dq), (ad 5, eArr cI 8 kq), (ad 6, eArr cI 2 ai), (ad 13, eArr cI 4 sna), (ad 7, eArr cI 4 wma), (ad 8, eArr cI 32 be), (ad 9, eArr cI 32 va), (ad 10, eArr cI 32 lo), (ad 16, eArr cI 9 ea), (ad 17, eArr cI 9 eb), (ad 18, eArr cI 9 eh), (ad 11, eArr cI 4 spa), (ad 20, eArr cI 150 lg'), (ad 21, eArr cI 150 vg')] → va_S A s.heap H locs → ∀ ls : Array Slot, lv_has ls 5 [(4, .int (nI y)), (1, .int (iI fi)), (2, .int (nI f)), (3, .int (nI (pq f))), (0, .ref rr)] → W p l e (headSpec wsX7_moved ({ frames := 5, cells := 0, slots := 0, locals := 120 })).room s m ([.ref rr] : List Value).toArray below meth c H locs 0 0 (MQ below (va_Qi (fun (r : Int32) ((lg', vg') : (Nat → Nat) × (Nat → Nat)) => r = (iI (-4))) (ctB D cI cC (fun ((lg', vg') : (Nat → Nat) × (Nat → Nat)) => [(rr, eMod ad len kp uo tm em pc0), (ad 2, eArr cI 2 fm), (ad 3, eArr cI 8 pq), (ad 4, eArr cI 8 dq), (ad 5, eArr cI 8 kq), (ad 6, eArr cI 2 ai), (ad 13, eArr cI 4 sna), (ad 7, eArr cI 4 wma), (ad 8, eArr cI 32 be), (ad 9, eArr cI 32 va), (ad 10, eArr cI 32 lo), (ad 16, eArr cI 9 ea), (ad 17, eArr cI 9 eb), (ad 18, eArr cI 9 eh), (ad 11, eArr cI 4 spa), (ad 20, eArr cI 150 lg'), (ad 21, eArr cI 150 vg')]) A) A) ([.ref rr] : List Value).toArray s 0 0 A) (F0 m 29 ls []) := by
          intro nn29
          induction nn29 with
          | zero =>
            intro y fi pq' lg' vg' hm7
            exact absurd hm7 (Nat.not_lt_zero _)
          | succ nn29 ih29 =>
            intro y fi pq' lg' vg' hm7 hi8 hpq hfo2 hi9 H locs hP hD hS ls hl
            refine lv_iload hx hb dX7_moved_29 (lv_at hl 0 rfl) ?_
            refine lv_bipush (v := (nI 40)) hx hb dX7_moved_31 (by decide) ?_
            refine x_icmp_gt (tgt := 86) hx hb dX7_moved_33 (by decide) (by omega) (by omega) (fun h10 => ?_) (fun h10 => ?_)
            · refine lv_aload_n hx hb dX7_moved_86 rfl (lv_at hl 4 rfl) ?_
              refine va_get (D := D) (ci := 7) (v := .ref (ad 3)) (C := RX7) (T := TX7) (N := 28) hx hb hts inX7 hown hK hP 0 rfl rfl 3 (by decide) fl16 (fun _ h9 => h9) rfl dX7_moved_87 ?_
              refine lv_iload_n hx hb dX7_moved_90 rfl (lv_at hl 2 rfl) ?_
              refine lv_iload_n hx hb dX7_moved_91 rfl (lv_at hl 3 rfl) ?_
              refine x_iast (A := A) hx hb hK hP hD hS 2 0 rfl rfl dX7_moved_92 (by omega) (by omega) (fun H locs hP hD hS => ?_)
              have hP : va_P D vwCl [(rr, eMod ad len kp uo tm em pc0), (ad 2, eArr cI 2 fm), (ad 3, eArr cI 8 (upN pq' f (pq f))), (ad 4, eArr cI 8 dq), (ad 5, eArr cI 8 kq), (ad 6, eArr cI 2 ai), (ad 13, eArr cI 4 sna), (ad 7, eArr cI 4 wma), (ad 8, eArr cI 32 be), (ad 9, eArr cI 32 va), (ad 10, eArr cI 32 lo), (ad 16, eArr cI 9 ea), (ad 17, eArr cI 9 eb), (ad 18, eArr cI 9 eh), (ad 11, eArr cI 4 spa), (ad 20, eArr cI 150 lg'), (ad 21, eArr cI 150 vg')] H := by have h := hP; rw [upd_nI] at h; exact h
              have hD : va_D A [(rr, eMod ad len kp uo tm em pc0), (ad 2, eArr cI 2 fm), (ad 3, eArr cI 8 (upN pq' f (pq f))), (ad 4, eArr cI 8 dq), (ad 5, eArr cI 8 kq), (ad 6, eArr cI 2 ai), (ad 13, eArr cI 4 sna), (ad 7, eArr cI 4 wma), (ad 8, eArr cI 32 be), (ad 9, eArr cI 32 va), (ad 10, eArr cI 32 lo), (ad 16, eArr cI 9 ea), (ad 17, eArr cI 9 eb), (ad 18, eArr cI 9 eh), (ad 11, eArr cI 4 spa), (ad 20, eArr cI 150 lg'), (ad 21, eArr cI 150 vg')] := by have h := hD; rw [upd_nI] at h; exact h
              have hP := va_P_arr (g' := pq) hP 2 rfl (fun j hj => by by_cases e : j = f; rw [e, upN_s]; rw [upN_n e]; exact hpq j e)
              have hD := hD.set (p := 2) (e := eArr cI 8 pq) rfl
              have hP : va_P D vwCl [(rr, eMod ad len kp uo tm em pc0), (ad 2, eArr cI 2 fm), (ad 3, eArr cI 8 pq), (ad 4, eArr cI 8 dq), (ad 5, eArr cI 8 kq), (ad 6, eArr cI 2 ai), (ad 13, eArr cI 4 sna), (ad 7, eArr cI 4 wma), (ad 8, eArr cI 32 be), (ad 9, eArr cI 32 va), (ad 10, eArr cI 32 lo), (ad 16, eArr cI 9 ea), (ad 17, eArr cI 9 eb), (ad 18, eArr cI 9 eh), (ad 11, eArr cI 4 spa), (ad 20, eArr cI 150 lg'), (ad 21, eArr cI 150 vg')] H := hP
              have hD : va_D A [(rr, eMod ad len kp uo tm em pc0), (ad 2, eArr cI 2 fm), (ad 3, eArr cI 8 pq), (ad 4, eArr cI 8 dq), (ad 5, eArr cI 8 kq), (ad 6, eArr cI 2 ai), (ad 13, eArr cI 4 sna), (ad 7, eArr cI 4 wma), (ad 8, eArr cI 32 be), (ad 9, eArr cI 32 va), (ad 10, eArr cI 32 lo), (ad 16, eArr cI 9 ea), (ad 17, eArr cI 9 eb), (ad 18, eArr cI 9 eh), (ad 11, eArr cI 4 spa), (ad 20, eArr cI 150 lg'), (ad 21, eArr cI 150 vg')] := hD
              refine lv_iinc (v := (nI (f + 1))) (lv' := [(2, .int (nI (f + 1))), (4, .int (nI y)), (1, .int (iI fi)), (3, .int (nI (pq f))), (0, .ref rr)]) hx hb dX7_moved_93 hl (k := 2) rfl (nI_inc _ 1) (by decide) rfl (fun ls hl => ?_)
              refine lv_goto (tgt := 5) hx hb dX7_moved_96 (by decide) ?_
              exact ih5 (f + 1) fi lg' vg' (by omega) (by omega) (by omega) (by omega) _ _ (hP.sub [0, 1, 2, 3, 4, 5, 6, 7, 8, 9, 10, 11, 12, 13, 14, 15, 16] rfl) (hD.sub [0, 1, 2, 3, 4, 5, 6, 7, 8, 9, 10, 11, 12, 13, 14, 15, 16] rfl rfl) hS _ (lv_sub hl [0, 2, 4] rfl)
            · refine lv_iload_n hx hb dX7_moved_36 rfl (lv_at hl 1 rfl) ?_
              refine z_if_ge (tgt := 86) hx hb dX7_moved_37 (by decide) (by omega) (fun h11 => False.elim (by omega)) (fun h11 => ?_)
              refine lv_aload_n hx hb dX7_moved_40 rfl (lv_at hl 4 rfl) ?_
              refine va_get (D := D) (ci := 7) (v := .ref (ad 3)) (C := RX7) (T := TX7) (N := 28) hx hb hts inX7 hown hK hP 0 rfl rfl 3 (by decide) fl16 (fun _ h9 => h9) rfl dX7_moved_41 ?_
              refine lv_iload_n hx hb dX7_moved_44 rfl (lv_at hl 2 rfl) ?_
              refine lv_iload hx hb dX7_moved_45 (lv_at hl 0 rfl) ?_
              refine x_iast (A := A) hx hb hK hP hD hS 2 0 rfl rfl dX7_moved_47 (by omega) (by omega) (fun H locs hP hD hS => ?_)
              have hP : va_P D vwCl [(rr, eMod ad len kp uo tm em pc0), (ad 2, eArr cI 2 fm), (ad 3, eArr cI 8 (upN pq' f y)), (ad 4, eArr cI 8 dq), (ad 5, eArr cI 8 kq), (ad 6, eArr cI 2 ai), (ad 13, eArr cI 4 sna), (ad 7, eArr cI 4 wma), (ad 8, eArr cI 32 be), (ad 9, eArr cI 32 va), (ad 10, eArr cI 32 lo), (ad 16, eArr cI 9 ea), (ad 17, eArr cI 9 eb), (ad 18, eArr cI 9 eh), (ad 11, eArr cI 4 spa), (ad 20, eArr cI 150 lg'), (ad 21, eArr cI 150 vg')] H := by have h := hP; rw [upd_nI] at h; exact h
              have hD : va_D A [(rr, eMod ad len kp uo tm em pc0), (ad 2, eArr cI 2 fm), (ad 3, eArr cI 8 (upN pq' f y)), (ad 4, eArr cI 8 dq), (ad 5, eArr cI 8 kq), (ad 6, eArr cI 2 ai), (ad 13, eArr cI 4 sna), (ad 7, eArr cI 4 wma), (ad 8, eArr cI 32 be), (ad 9, eArr cI 32 va), (ad 10, eArr cI 32 lo), (ad 16, eArr cI 9 ea), (ad 17, eArr cI 9 eb), (ad 18, eArr cI 9 eh), (ad 11, eArr cI 4 spa), (ad 20, eArr cI 150 lg'), (ad 21, eArr cI 150 vg')] := by have h := hD; rw [upd_nI] at h; exact h
              refine lv_iload hx hb dX7_moved_48 (lv_at hl 0 rfl) ?_
              refine lv_iload_n hx hb dX7_moved_50 rfl (lv_at hl 3 rfl) ?_
              refine x_icmp_eq (tgt := 77) hx hb dX7_moved_51 (by decide) (by omega) (by omega) (fun h12 => ?_) (fun h12 => ?_)
              · have hmg : movG cl (fm 0) (ai 0) (sna 0) wd (wma 0) eg em (spa 0) f y = false := by unfold movG; rw [decide_eq_false (fun hh => hh (by omega))]; rfl
                refine lv_bipush (v := (iI (-4))) hx hb dX7_moved_77 (by decide) ?_
                refine lv_istore_n (lv' := [(1, .int (iI (-4))), (4, .int (nI y)), (2, .int (nI f)), (3, .int (nI (pq f))), (0, .ref rr)]) hx hb dX7_moved_79 rfl hl (by decide) rfl (fun ls hl => ?_)
                refine lv_iinc (v := (nI (y + 1))) (lv' := [(4, .int (nI (y + 1))), (1, .int (iI (-4))), (2, .int (nI f)), (3, .int (nI (pq f))), (0, .ref rr)]) hx hb dX7_moved_80 hl (k := 1) rfl (nI_inc _ 1) (by decide) rfl (fun ls hl => ?_)
                refine lv_goto (tgt := 29) hx hb dX7_moved_83 (by decide) ?_
                exact ih29 (y + 1) (-4) (upN pq' f y) lg' vg' (by omega) (by omega) (fun j hj => by rw [upN_n hj]; exact hpq j hj) (by omega) (by omega) _ _ (hP.sub [0, 1, 2, 3, 4, 5, 6, 7, 8, 9, 10, 11, 12, 13, 14, 15, 16] rfl) (hD.sub [0, 1, 2, 3, 4, 5, 6, 7, 8, 9, 10, 11, 12, 13, 14, 15, 16] rfl rfl) hS _ (lv_sub hl [0, 1, 2, 3, 4] rfl)
              · refine lv_aload_n hx hb dX7_moved_54 rfl (lv_at hl 4 rfl) ?_
                refine lv_aload_n hx hb dX7_moved_55 rfl (lv_at hl 4 rfl) ?_
                refine va_get (D := D) (ci := 7) (v := .ref (ad 11)) (C := RX7) (T := TX7) (N := 28) hx hb hts inX7 hown hK hP 0 rfl rfl 11 (by decide) fl40 (fun _ h9 => h9) rfl dX7_moved_56 ?_
                refine lv_iconst (v := (nI 0)) hx hb dX7_moved_59 (by decide) ?_
                refine x_iald (A := A) hx hb hK hP 14 0 rfl rfl dX7_moved_60 (by omega) (by omega) ?_
                refine k_V (q := (RX7, TX7, 28)) (ci := 7) (As := [.int (nI (spa 0))]) (wr := [(ad 11, eArr cI 4 spa)]) ⟨hx, hb, hml, hown, hts⟩ (c_X7_isHeardSo l D cI cC rr ad len kp uo tm em pc0 fm (upN pq' f y) dq kq ai sna wma be va lo ea eb eh lg' vg' (upN cl (3 * f + 0) y) (relC_mv hrc hpq) (okC_mv hok (by omega)) (by omega) wd hrd hokd (by omega) eg hre (by omega) hoe (spa 0) (by omega)) (cwV 1 hts gX7_moved_X7_isHeardSo rfl rfl rfl (by decide +kernel) ⟨Nat.le_of_ble_eq_true rfl, Nat.le_of_ble_eq_true rfl⟩) rfl hl.1 rfl (Nat.le_of_ble_eq_true rfl) dX7_moved_61 ⟨Nat.zero_le _, Nat.zero_le _⟩ hN hK hP hD hS hA rfl (q0 := 0) rfl [0, 1, 2, 3, 4, 5, 6, 7, 8, 9, 10, 11, 12, 13, 15, 16] [14] rfl rfl ⟨rfl, rfl, by decide⟩ (fun r13 u H locs w16 hP hD hS => ?_)
                obtain ⟨lg'14, vg'15⟩ := u
                obtain ⟨rfl, h17⟩ | ⟨rfl, h18⟩ : (r13 = (nI 1) ∧ asM (upN cl (3 * f + 0) y) (fm 0) (ai 0) (sna 0) wd (wma 0) eg em (spa 0) = true) ∨ (r13 = (nI 0) ∧ asM (upN cl (3 * f + 0) y) (fm 0) (ai 0) (sna 0) wd (wma 0) eg em (spa 0) = false) := w16
                · have hmg : movG cl (fm 0) (ai 0) (sna 0) wd (wma 0) eg em (spa 0) f y = true := by unfold movG; rw [h17, decide_eq_true (by omega)]; rfl
                  exact absurd hmg (by rw [hb1 f (by omega) y (by omega)]; decide)
                · have hmg : movG cl (fm 0) (ai 0) (sna 0) wd (wma 0) eg em (spa 0) f y = false := by unfold movG; rw [h18, decide_eq_true (by omega)]; rfl
                  refine x_if_eq (tgt := 77) hx hb dX7_moved_64 (by decide) (by omega) (fun h19 => ?_) (fun h19 => False.elim (by omega))
                  refine lv_bipush (v := (iI (-4))) hx hb dX7_moved_77 (by decide) ?_
                  refine lv_istore_n (lv' := [(1, .int (iI (-4))), (4, .int (nI y)), (2, .int (nI f)), (3, .int (nI (pq f))), (0, .ref rr)]) hx hb dX7_moved_79 rfl hl (by decide) rfl (fun ls hl => ?_)
                  refine lv_iinc (v := (nI (y + 1))) (lv' := [(4, .int (nI (y + 1))), (1, .int (iI (-4))), (2, .int (nI f)), (3, .int (nI (pq f))), (0, .ref rr)]) hx hb dX7_moved_80 hl (k := 1) rfl (nI_inc _ 1) (by decide) rfl (fun ls hl => ?_)
                  refine lv_goto (tgt := 29) hx hb dX7_moved_83 (by decide) ?_
                  exact ih29 (y + 1) (-4) (upN pq' f y) lg'14 vg'15 (by omega) (by omega) (fun j hj => by rw [upN_n hj]; exact hpq j hj) (by omega) (by omega) _ _ (hP.sub [1, 2, 3, 4, 5, 6, 7, 8, 9, 10, 11, 12, 13, 14, 0, 15, 16] rfl) (hD.sub [1, 2, 3, 4, 5, 6, 7, 8, 9, 10, 11, 12, 13, 14, 0, 15, 16] rfl rfl) hS _ (lv_sub hl [0, 1, 2, 3, 4] rfl)
        exact loop29 _ 0 fo pq lg' vg' (Nat.lt_succ_self _) (by omega) (fun j hj => rfl) (by omega) (by omega) _ _ (hP.sub [0, 1, 2, 3, 4, 5, 6, 7, 8, 9, 10, 11, 12, 13, 14, 15, 16] rfl) (hD.sub [0, 1, 2, 3, 4, 5, 6, 7, 8, 9, 10, 11, 12, 13, 14, 15, 16] rfl rfl) hS _ (lv_sub hl [0, 3, 2, 1, 4] rfl)
  exact loop5 _ 0 (-4) lg vg (Nat.lt_succ_self _) (by omega) (by omega) (by omega) _ _ (hP.sub [0, 1, 2, 3, 4, 5, 6, 7, 8, 9, 10, 11, 12, 13, 14, 15, 16] rfl) (hD.sub [0, 1, 2, 3, 4, 5, 6, 7, 8, 9, 10, 11, 12, 13, 14, 15, 16] rfl rfl) hS _ (lv_sub hl [0, 1, 2] rfl)
