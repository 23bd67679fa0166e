/-- contents that agree where they count -/
def sameC (g g' : Nat → Nat) (n : Nat) : Prop := ∀ j, j < 3 * n → g j = g' j
theorem sameC_cp (g g' : Nat → Nat) (n : Nat) : sameC (cpN g g' (3 * n)) g' n := fun _ h => cpN_lt h
theorem okC_same {cl cl' : Nat → Nat} {nc : Nat} (h : sameC cl cl' nc) (h2 : okC cl' nc) : okC cl nc := by
  intro f hf
  rw [h (3 * f + 0) (by omega), h (3 * f + 1) (by omega), h (3 * f + 2) (by omega)]
  exact h2 f hf
theorem okD_same {wd wd' : Nat → Nat} {nw : Nat} (h : sameC wd wd' nw) (h2 : okD wd' nw) : okD wd nw := by
  intro f hf
  rw [h (3 * f + 0) (by omega), h (3 * f + 1) (by omega), h (3 * f + 2) (by omega)]
  exact h2 f hf
theorem waysM_same {cl cl' : Nat → Nat} {nc : Nat} (h : sameC cl cl' nc) (air sn x y : Nat) : ∀ n, n ≤ nc → waysM cl air sn x y n = waysM cl' air sn x y n := by
  intro n
  induction n with
  | zero => intro _; rfl
  | succ f ih =>
    intro hf
    rw [waysM_s, waysM_s, ih (by omega)]
    unfold wayM
    rw [h (3 * f + 0) (by omega), h (3 * f + 1) (by omega), h (3 * f + 2) (by omega)]
theorem playM_same {wd wd' : Nat → Nat} {nw : Nat} (h : sameC wd wd' nw) (S : Snd) (on : Nat → Bool) (L : List (Nat × Nat)) (d : Nat) : ∀ n, n ≤ nw → playM S on wd L d n = playM S on wd' L d n := by
  intro n
  induction n with
  | zero => intro _; rfl
  | succ w ih =>
    intro hw
    show (if on w then _ else _) = (if on w then _ else _)
    rw [ih (by omega), h (3 * w + 0) (by omega), h (3 * w + 1) (by omega), h (3 * w + 2) (by omega)]
theorem hearM_same {cl cl' wd wd' : Nat → Nat} {nc nw : Nat} (h : sameC cl cl' nc) (h2 : sameC wd wd' nw) (air sn x y set : Nat) : hearM cl nc air sn wd nw x y set = hearM cl' nc air sn wd' nw x y set := by
  unfold hearM
  rw [waysM_same h air sn x y nc (Nat.le_refl _), playM_same h2 _ _ _ _ nw (Nat.le_refl _)]
theorem hitM_same {wd wd' : Nat → Nat} {nw : Nat} (h : sameC wd wd' nw) (S : Snd) (d y z : Nat) {w : Nat} (hw : w < nw) : hitM S wd w d y z = hitM S wd' w d y z := by
  unfold hitM
  rw [h (3 * w + 0) (by omega), h (3 * w + 1) (by omega), h (3 * w + 2) (by omega)]
theorem bitsM_congr {c c' : Nat → Bool} : ∀ {n : Nat}, (∀ w, w < n → c w = c' w) → bitsM c n = bitsM c' n := by
  intro n
  induction n with
  | zero => intro _; rfl
  | succ w ih =>
    intro h
    show _ + (if c w then _ else _) = _ + (if c' w then _ else _)
    rw [ih (fun v hv => h v (by omega)), h w (by omega)]
theorem cntM_congr {c c' : Nat → Bool} : ∀ {n : Nat}, (∀ w, w < n → c w = c' w) → cntM c n = cntM c' n := by
  intro n
  induction n with
  | zero => intro _; rfl
  | succ w ih =>
    intro h
    show _ + (if c w then _ else _) = _ + (if c' w then _ else _)
    rw [ih (fun v hv => h v (by omega)), h w (by omega)]
theorem clrM_same {cl cl' wd wd' : Nat → Nat} {nc nw : Nat} (h : sameC cl cl' nc) (h2 : sameC wd wd' nw) (air sn x y set : Nat) : clrM cl nc air sn wd nw x y set = clrM cl' nc air sn wd' nw x y set := by
  unfold clrM
  rw [hearM_same h h2]
  exact bitsM_congr (fun w hw => by rw [hitM_same h2 _ _ _ _ hw])
theorem cntClr_same {cl cl' wd wd' : Nat → Nat} {nc nw : Nat} (h : sameC cl cl' nc) (h2 : sameC wd wd' nw) (air sn x y : Nat) : cntClr cl nc air sn wd nw x y = cntClr cl' nc air sn wd' nw x y := by
  unfold cntClr
  rw [clrM_same h h2]
theorem backM_same {wd wd' : Nat → Nat} {nw : Nat} (h : sameC wd wd' nw) (S : Snd) (L : List (Nat × Nat)) {w : Nat} (hw : w < nw) : backM S wd w L = backM S wd' w L := by
  unfold backM
  congr 1
  funext y
  rw [hitM_same h _ _ _ _ hw]
theorem rentM_same {cl cl' wd wd' : Nat → Nat} {nc nw : Nat} (h : sameC cl cl' nc) (h2 : sameC wd wd' nw) (air sn x : Nat) : rentM cl nc air sn wd nw x = rentM cl' nc air sn wd' nw x := by
  unfold rentM
  rw [hearM_same h h2, waysM_same h air sn x x nc (Nat.le_refl _)]
  exact cntM_congr (fun w hw => by rw [backM_same h2 _ _ hw])
theorem cntClr_le (cl : Nat → Nat) (nc air sn : Nat) (wd : Nat → Nat) (nw x y : Nat) : cntClr cl nc air sn wd nw x y ≤ 12 := cntM_le _ 12
theorem rentM_le (cl : Nat → Nat) (nc air sn : Nat) (wd : Nat → Nat) (nw x : Nat) : rentM cl nc air sn wd nw x ≤ nw := cntM_le _ nw
/-- the best of the yards looked at, how many, how much -/
def argM (F G : Nat → Nat) : Nat → Nat × Int × Int
  | 0 => (0, -1, -1)
  | x + 1 => if (argM F G x).2.1 < (F x : Int) ∨ ((F x : Int) = (argM F G x).2.1 ∧ (argM F G x).2.2 < (G x : Int)) then (x, (F x : Int), (G x : Int)) else argM F G x
theorem argM_t {F G : Nat → Nat} {x : Nat} (h : (argM F G x).2.1 < (F x : Int) ∨ ((F x : Int) = (argM F G x).2.1 ∧ (argM F G x).2.2 < (G x : Int))) : argM F G (x + 1) = (x, (F x : Int), (G x : Int)) := if_pos h
theorem argM_f {F G : Nat → Nat} {x : Nat} (h : ¬ ((argM F G x).2.1 < (F x : Int) ∨ ((F x : Int) = (argM F G x).2.1 ∧ (argM F G x).2.2 < (G x : Int)))) : argM F G (x + 1) = argM F G x := if_neg h
theorem argM_bd {F G : Nat → Nat} (hF : ∀ x, F x ≤ 12) (hG : ∀ x, G x ≤ 12) (n : Nat) : (-1 ≤ (argM F G n).2.1 ∧ (argM F G n).2.1 ≤ 12) ∧ (-1 ≤ (argM F G n).2.2 ∧ (argM F G n).2.2 ≤ 12) ∧ (argM F G n).1 ≤ n := by
  induction n with
  | zero =>
    show ((-1 : Int) ≤ -1 ∧ (-1 : Int) ≤ 12) ∧ ((-1 : Int) ≤ -1 ∧ (-1 : Int) ≤ 12) ∧ 0 ≤ 0
    omega
  | succ x ih =>
    have h1 := hF x
    have h2 := hG x
    by_cases h : (argM F G x).2.1 < (F x : Int) ∨ ((F x : Int) = (argM F G x).2.1 ∧ (argM F G x).2.2 < (G x : Int))
    · rw [argM_t h]
      dsimp only
      omega
    · rw [argM_f h]
      omega
theorem argM_z (F : Nat → Nat) (n : Nat) : 0 ≤ (argM F (fun _ => 0) n).2.2 ∨ (argM F (fun _ => 0) n).2.1 < 0 := by
  induction n with
  | zero => exact Or.inr (by show (-1 : Int) < 0; omega)
  | succ x ih =>
    by_cases h : (argM F (fun _ => 0) x).2.1 < (F x : Int) ∨ ((F x : Int) = (argM F (fun _ => 0) x).2.1 ∧ (argM F (fun _ => 0) x).2.2 < ((0 : Nat) : Int))
    · rw [argM_t (G := fun _ => 0) h]
      exact Or.inl (by show (0 : Int) ≤ ((0 : Nat) : Int); omega)
    · rw [argM_f (G := fun _ => 0) h]
      exact ih
def allB (p : Nat → Bool) : Nat → Bool
  | 0 => true
  | n + 1 => allB p n && p n
theorem allB_s {p : Nat → Bool} {n : Nat} (h : allB p n = true) (h2 : p n = true) : allB p (n + 1) = true := by
  show (allB p n && p n) = true
  rw [h, h2]; rfl
theorem allB_f {p : Nat → Bool} {i n : Nat} (h : p i = false) : i < n → allB p n = false := by
  induction n with
  | zero => intro h2; omega
  | succ n ih =>
    intro h2
    show (allB p n && p n) = false
    by_cases h3 : i = n
    · rw [← h3, h, Bool.and_false]
    · rw [ih (by omega)]; rfl

set_option maxRecDepth 100000 in
set_option maxHeartbeats 4000000 in
theorem c_X6_bestSit (l : Launch) (D : va_G) (cI cC : ClassId) (o : Nat) (t0 : Nat) (a2 : Nat) (w0 : Nat) (y0 : Nat) (s0 : Nat) (h0 : Nat) (g0 : Nat) (u0 : Nat) (v0 : Nat) (wb : Nat) (bb : Nat) (wl : Nat) (bl : Nat) (v1 : Nat) (va : Nat) (l1 : Nat) (la : Nat) (kw : Nat) (bt : Nat → Nat) (lw : Nat → Nat) (vg : Nat → Nat) (lg : Nat → Nat) (k1 : Nat) (k2 : Nat) (a : Nat) (b1 : Nat) (c1 : Nat) (b2 : Nat) (c2 : Nat) (cl : Nat → Nat) (nc : Nat) (wd : Nat → Nat) (nw : Nat) (sp : Nat) (he : Nat) (air : Nat) (sn : Nat) (hnn : nc ≤ 4 ∧ nw ≤ 8) (hok : okC cl nc) (hokd : okD wd nw) (hsp : sp ≤ 40) (hair : air ≤ 99 ∧ sn < 2147483648) : mtI l D cI cC yX6_bestSit wsX6_bestSit ({ frames := 6, cells := 0, slots := 0, locals := 143 }) [.ref o] [(o, eEPR t0 a a2 w0 y0 s0 h0 g0 u0 v0), (w0, eWay wb wl), (wb, eRow bb kw), (bb, eArr cI 9 bt), (wl, eRow bl kw), (bl, eArr cI 9 lw), (s0, eSnd v1 l1), (v1, eRow va k1), (va, eArr cI 150 vg), (l1, eRow la k2), (la, eArr cI 150 lg), (a, eCan b1 b2 sp he air sn), (b1, eRow c1 (3 * nc)), (c1, eArr cI 12 cl), (b2, eRow c2 (3 * nw)), (c2, eArr cI 24 wd)] (fun (r : Int32) ((kw', bt', lw', vg', lg', k1', k2') : Nat × (Nat → Nat) × (Nat → Nat) × (Nat → Nat) × (Nat → Nat) × Nat × Nat) => r = (nI ((argM (fun y => cntClr cl nc air sn wd nw sp y) (fun _ => 0) 41).1))) (fun ((kw', bt', lw', vg', lg', k1', k2') : Nat × (Nat → Nat) × (Nat → Nat) × (Nat → Nat) × (Nat → Nat) × Nat × Nat) => [(o, eEPR t0 a a2 w0 y0 s0 h0 g0 u0 v0), (w0, eWay wb wl), (wb, eRow bb kw'), (bb, eArr cI 9 bt'), (wl, eRow bl kw'), (bl, eArr cI 9 lw'), (s0, eSnd v1 l1), (v1, eRow va k1'), (va, eArr cI 150 vg'), (l1, eRow la k2'), (la, eArr cI 150 lg'), (a, eCan b1 b2 sp he air sn), (b1, eRow c1 (3 * nc)), (c1, eArr cI 12 cl), (b2, eRow c2 (3 * nw)), (c2, eArr cI 24 wd)]) := by
  refine mtI_of (cc := cX6_bestSit) (maxL := 5) (ret := (some .int)) (by decide) rfl rfl ?_
  intro p e s m below meth c A hx hb hml hr hts hown hlocks hN hA hK hP hD hS ls hl
  have hown : s.vm.findClass RX6 = some m.cls := hown
  have hl : lv_has ls 5 [(0, .ref o)] := hl
  obtain ⟨H, hHe⟩ : ∃ H, H = s.heap := ⟨_, rfl⟩
  rw [← hHe] at hP ⊢
  have hS : va_S A s.heap H [] := by rw [hHe]; exact va_S.rf
  have fl19 := hts (.fieldLink RX6 19 "EchoPaysRent" "canyon" "LEchoPaysRent$Canyon;") (by decide +kernel)
  have inX6 : ∀ w ∈ wsX60, w ∈ wsX6_bestSit := by decide +kernel
  refine lv_iconst (v := (nI 0)) hx hb dX6_bestSit_0 (by decide) ?_
  refine lv_istore_n (lv' := [(1, .int (nI 0)), (0, .ref o)]) hx hb dX6_bestSit_1 rfl hl (by decide) rfl (fun ls hl => ?_)
  refine lv_iconst (v := (iI (-1))) hx hb dX6_bestSit_2 (by decide) ?_
  refine lv_istore_n (lv' := [(2, .int (iI (-1))), (1, .int (nI 0)), (0, .ref o)]) hx hb dX6_bestSit_3 rfl hl (by decide) rfl (fun ls hl => ?_)
  refine lv_iconst (v := (nI 0)) hx hb dX6_bestSit_4 (by decide) ?_
  refine lv_istore_n (lv' := [(3, .int (nI 0)), (2, .int (iI (-1))), (1, .int (nI 0)), (0, .ref o)]) hx hb dX6_bestSit_5 rfl hl (by decide) rfl (fun ls hl => ?_)
  have loop6 : ∀ (nn6 : Nat) (y : Nat) (kw' : Nat) (bt' : Nat → Nat) (lw' : Nat → Nat) (vg' : Nat → Nat) (lg' : Nat → Nat) (k1' : Nat) (k2' : Nat), 41 - y < nn6 → (y ≤ 41) → ∀ (H : Heap) (locs : List Loc), va_P D vwCl [(o, eEPR t0 a a2 w0 y0 s0 h0 g0 u0 v0), (w0, eWay wb wl), (wb, eRow bb kw'), (bb, eArr cI 9 bt'), (wl, eRow bl kw'), (bl, eArr cI 9 lw'), (s0, eSnd v1 l1), (v1, eRow va k1'), (va, eArr cI 150 vg'), (l1, eRow la k2'), (la, eArr cI 150 lg'), (a, eCan b1 b2 sp he air sn), (b1, eRow c1 (3 * nc)), (c1, eArr cI 12 cl), (b2, eRow c2 (3 * nw)), (c2, eArr cI 24 wd)] H → va_D A [(o, eEPR t0 a a2 w0 y0 s0 h0 g0 u0 v0), (w0, eWay wb wl), (wb, eRow bb kw'), (bb, eArr cI 9 bt'), (wl, eRow bl kw'), (bl, eArr cI 9 lw'), (s0, eSnd v1 l1), (v1, eRow va k1'), (va, eArr cI 150 vg'), (l1, eRow la k2'), (la, eArr cI 150 lg'), (a, eCan b1 b2 sp he air sn), (b1, eRow c1 (3 * nc)), (c1, eArr cI 12 cl), (b2, eRow c2 (3 * nw)), (c2, eArr cI 24 wd)] → va_S A s.heap H locs → ∀ ls : Array Slot, lv_has ls 5 [(3, .int (nI y)), (1, .int (nI ((argM (fun y => cntClr cl nc air sn wd nw sp y) (fun _ => 0) y).1))), (2, .int (iI ((argM (fun y => cntClr cl nc air sn wd nw sp y) (fun _ => 0) y).2.1))), (0, .ref o)] → W p l e (headSpec wsX6_bestSit ({ frames := 6, cells := 0, slots := 0, locals := 143 })).room s m ([.ref o] : List Value).toArray below meth c H locs 0 0 (MQ below (va_Qi (fun (r : Int32) ((kw', bt', lw', vg', lg', k1', k2') : Nat × (Nat → Nat) × (Nat → Nat) × (Nat → Nat) × (Nat → Nat) × Nat × Nat) => r = (nI ((argM (fun y => cntClr cl nc air sn wd nw sp y) (fun _ => 0) 41).1))) (ctB D cI cC (fun ((kw', bt', lw', vg', lg', k1', k2') : Nat × (Nat → Nat) × (Nat → Nat) × (Nat → Nat) × (Nat → Nat) × Nat × Nat) => [(o, eEPR t0 a a2 w0 y0 s0 h0 g0 u0 v0), (w0, eWay wb wl), (wb, eRow bb kw'), (bb, eArr cI 9 bt'), (wl, eRow bl kw'), (bl, eArr cI 9 lw'), (s0, eSnd v1 l1), (v1, eRow va k1'), (va, eArr cI 150 vg'), (l1, eRow la k2'), (la, eArr cI 150 lg'), (a, eCan b1 b2 sp he air sn), (b1, eRow c1 (3 * nc)), (c1, eArr cI 12 cl), (b2, eRow c2 (3 * nw)), (c2, eArr cI 24 wd)]) A) A) ([.ref o] : List Value).toArray s 0 0 A) (F0 m 6 ls []) := by
    intro nn6
    induction nn6 with
    | zero =>
      intro y kw' bt' lw' vg' lg' k1' k2' hm1
      exact absurd hm1 (Nat.not_lt_zero _)
    | succ nn6 ih6 =>
      intro y kw' bt' lw' vg' lg' k1' k2' hm1 hi2 H locs hP hD hS ls hl
      refine lv_iload_n hx hb dX6_bestSit_6 rfl (lv_at hl 0 rfl) ?_
      refine lv_bipush (v := (nI 40)) hx hb dX6_bestSit_7 (by decide) ?_
      refine x_icmp_gt (tgt := 40) hx hb dX6_bestSit_9 (by decide) (by omega) (by omega) (fun h3 => ?_) (fun h3 => ?_)
      · obtain rfl : y = 41 := by omega
        refine lv_iload_n hx hb dX6_bestSit_40 rfl (lv_at hl 1 rfl) ?_
        exact x_iret hx hb hr hlocks dX6_bestSit_41 rfl (post := fun (r : Int32) ((kw', bt', lw', vg', lg', k1', k2') : Nat × (Nat → Nat) × (Nat → Nat) × (Nat → Nat) × (Nat → Nat) × Nat × Nat) => r = (nI ((argM (fun y => cntClr cl nc air sn wd nw sp y) (fun _ => 0) 41).1))) (w1 := fun ((kw', bt', lw', vg', lg', k1', k2') : Nat × (Nat → Nat) × (Nat → Nat) × (Nat → Nat) × (Nat → Nat) × Nat × Nat) => [(o, eEPR t0 a a2 w0 y0 s0 h0 g0 u0 v0), (w0, eWay wb wl), (wb, eRow bb kw'), (bb, eArr cI 9 bt'), (wl, eRow bl kw'), (bl, eArr cI 9 lw'), (s0, eSnd v1 l1), (v1, eRow va k1'), (va, eArr cI 150 vg'), (l1, eRow la k2'), (la, eArr cI 150 lg'), (a, eCan b1 b2 sp he air sn), (b1, eRow c1 (3 * nc)), (c1, eArr cI 12 cl), (b2, eRow c2 (3 * nw)), (c2, eArr cI 24 wd)]) (kw', bt', lw', vg', lg', k1', k2') rfl hK hP hD hS
      · have hbd := argM_bd (F := (fun y => cntClr cl nc air sn wd nw sp y)) (G := (fun _ => 0)) (fun y => cntClr_le cl nc air sn wd nw sp y) (fun _ => Nat.zero_le _) y
        have hcl := cntClr_le cl nc air sn wd nw sp y
        have hbz := argM_z (fun y => cntClr cl nc air sn wd nw sp y) y
        refine lv_aload_n hx hb dX6_bestSit_12 rfl (lv_at hl 3 rfl) ?_
        refine lv_aload_n hx hb dX6_bestSit_13 rfl (lv_at hl 3 rfl) ?_
        refine va_get (D := D) (ci := 6) (v := .ref a) (C := RX6) (T := TX6) (N := 10) hx hb hts inX6 hown hK hP 0 rfl rfl 1 (by decide) fl19 (fun _ h9 => h9) rfl dX6_bestSit_14 ?_
        refine lv_iload_n hx hb dX6_bestSit_17 rfl (lv_at hl 0 rfl) ?_
        refine k_V (q := (RX6, TX6, 10)) (ci := 6) (As := [.ref a, .int (nI y)]) (wr := []) ⟨hx, hb, hml, hown, hts⟩ (c_X6_clearCount l D cI cC o t0 a a2 w0 y0 s0 h0 g0 u0 v0 wb bb wl bl v1 va l1 la kw' bt' lw' vg' lg' k1' k2' a b1 c1 b2 c2 cl nc wd nw sp he air sn y (by omega) (by omega) hok hokd (by omega) (by omega)) (cwV 2 hts gX6_bestSit_X6_clearCount rfl rfl rfl (by decide +kernel) ⟨Nat.le_of_ble_eq_true rfl, Nat.le_of_ble_eq_true rfl⟩) rfl hl.1 rfl (Nat.le_of_ble_eq_true rfl) dX6_bestSit_18 ⟨Nat.zero_le _, Nat.zero_le _⟩ hN hK hP hD hS hA rfl (q0 := 0) rfl [0, 1, 2, 3, 4, 5, 6, 7, 8, 9, 10, 11, 12, 13, 14, 15] [] rfl rfl ⟨rfl, rfl, by decide⟩ (fun r4 u H locs w7 hP hD hS => ?_)
        obtain ⟨bt'5, lw'6⟩ := u
        obtain ⟨rfl, h8⟩ : r4 = (nI (cntClr cl nc air sn wd nw sp y)) ∧ repW bt'5 lw'6 (waysM cl air sn sp y nc) := w7
        refine lv_istore (lv' := [(4, .int (nI (cntClr cl nc air sn wd nw sp y))), (3, .int (nI y)), (1, .int (nI ((argM (fun y => cntClr cl nc air sn wd nw sp y) (fun _ => 0) y).1))), (2, .int (iI ((argM (fun y => cntClr cl nc air sn wd nw sp y) (fun _ => 0) y).2.1))), (0, .ref o)]) hx hb dX6_bestSit_21 hl (by decide) rfl (fun ls hl => ?_)
        refine lv_iload hx hb dX6_bestSit_23 (lv_at hl 0 rfl) ?_
        refine lv_iload_n hx hb dX6_bestSit_25 rfl (lv_at hl 3 rfl) ?_
        refine x_top2 (nI_iI _) ?_
        refine z_icmp_le (tgt := 34) hx hb dX6_bestSit_26 (by decide) (by omega) (by omega) (fun h9 => ?_) (fun h9 => ?_)
        · refine lv_iinc (v := (nI (y + 1))) (lv' := [(3, .int (nI (y + 1))), (4, .int (nI (cntClr cl nc air sn wd nw sp y))), (1, .int (nI ((argM (fun y => cntClr cl nc air sn wd nw sp y) (fun _ => 0) y).1))), (2, .int (iI ((argM (fun y => cntClr cl nc air sn wd nw sp y) (fun _ => 0) y).2.1))), (0, .ref o)]) hx hb dX6_bestSit_34 hl (k := 1) rfl (nI_inc _ 1) (by decide) rfl (fun ls hl => ?_)
          refine lv_goto (tgt := 6) hx hb dX6_bestSit_37 (by decide) ?_
          have hl : lv_has ls 5 [(3, .int (nI (y + 1))), (1, .int (nI ((argM (fun y => cntClr cl nc air sn wd nw sp y) (fun _ => 0) (y + 1)).1))), (2, .int (iI ((argM (fun y => cntClr cl nc air sn wd nw sp y) (fun _ => 0) (y + 1)).2.1))), (0, .ref o)] := by have h := hl; have e := argM_f (F := (fun y => cntClr cl nc air sn wd nw sp y)) (G := (fun _ => 0)) (x := y) (fun hh => by rcases hh with hh | hh <;> (try dsimp only at hh) <;> omega); rw [e]; have h := lv_sub h [0, 2, 3, 4] rfl; simp only [nI_iI] at h ⊢; exact h
          exact ih6 (y + 1) (lenW (waysM cl air sn sp y nc)) bt'5 lw'6 ((hearM cl nc air sn wd nw sp y (2 ^ nw - 1)).2) ((hearM cl nc air sn wd nw sp y (2 ^ nw - 1)).1) 150 150 (by omega) (by omega) _ _ (hP.sub [0, 1, 2, 3, 4, 5, 6, 7, 8, 9, 10, 11, 12, 13, 14, 15] rfl) (hD.sub [0, 1, 2, 3, 4, 5, 6, 7, 8, 9, 10, 11, 12, 13, 14, 15] rfl rfl) hS _ (lv_sub hl [0, 1, 2, 3] rfl)
        · refine lv_iload_n hx hb dX6_bestSit_29 rfl (lv_at hl 1 rfl) ?_
          refine lv_istore_n (lv' := [(1, .int (nI y)), (4, .int (nI (cntClr cl nc air sn wd nw sp y))), (3, .int (nI y)), (2, .int (iI ((argM (fun y => cntClr cl nc air sn wd nw sp y) (fun _ => 0) y).2.1))), (0, .ref o)]) hx hb dX6_bestSit_30 rfl hl (by decide) rfl (fun ls hl => ?_)
          refine lv_iload hx hb dX6_bestSit_31 (lv_at hl 1 rfl) ?_
          refine lv_istore_n (lv' := [(2, .int (nI (cntClr cl nc air sn wd nw sp y))), (1, .int (nI y)), (4, .int (nI (cntClr cl nc air sn wd nw sp y))), (3, .int (nI y)), (0, .ref o)]) hx hb dX6_bestSit_33 rfl hl (by decide) rfl (fun ls hl => ?_)
          refine lv_iinc (v := (nI (y + 1))) (lv' := [(3, .int (nI (y + 1))), (2, .int (nI (cntClr cl nc air sn wd nw sp y))), (1, .int (nI y)), (4, .int (nI (cntClr cl nc air sn wd nw sp y))), (0, .ref o)]) hx hb dX6_bestSit_34 hl (k := 3) rfl (nI_inc _ 1) (by decide) rfl (fun ls hl => ?_)
          refine lv_goto (tgt := 6) hx hb dX6_bestSit_37 (by decide) ?_
          have hl : lv_has ls 5 [(3, .int (nI (y + 1))), (1, .int (nI ((argM (fun y => cntClr cl nc air sn wd nw sp y) (fun _ => 0) (y + 1)).1))), (2, .int (iI ((argM (fun y => cntClr cl nc air sn wd nw sp y) (fun _ => 0) (y + 1)).2.1))), (0, .ref o)] := by have h := hl; have e := argM_t (F := (fun y => cntClr cl nc air sn wd nw sp y)) (G := (fun _ => 0)) (x := y) (Or.inl (by omega)); rw [e]; have h := lv_sub h [0, 2, 1, 4] rfl; simp only [nI_iI] at h ⊢; exact h
          exact ih6 (y + 1) (lenW (waysM cl air sn sp y nc)) bt'5 lw'6 ((hearM cl nc air sn wd nw sp y (2 ^ nw - 1)).2) ((hearM cl nc air sn wd nw sp y (2 ^ nw - 1)).1) 150 150 (by omega) (by omega) _ _ (hP.sub [0, 1, 2, 3, 4, 5, 6, 7, 8, 9, 10, 11, 12, 13, 14, 15] rfl) (hD.sub [0, 1, 2, 3, 4, 5, 6, 7, 8, 9, 10, 11, 12, 13, 14, 15] rfl rfl) hS _ (lv_sub hl [0, 1, 2, 3] rfl)
  exact loop6 _ 0 kw bt lw vg lg k1 k2 (Nat.lt_succ_self _) (by omega) _ _ (hP.sub [0, 1, 2, 3, 4, 5, 6, 7, 8, 9, 10, 11, 12, 13, 14, 15] rfl) (hD.sub [0, 1, 2, 3, 4, 5, 6, 7, 8, 9, 10, 11, 12, 13, 14, 15] rfl rfl) hS _ (lv_sub hl [0, 2, 1, 3] rfl)

set_option maxRecDepth 100000 in
set_option maxHeartbeats 4000000 in
theorem c_X6_bestStand (l : Launch) (D : va_G) (cI cC : ClassId) (o : Nat) (t0 : Nat) (a2 : Nat) (w0 : Nat) (y0 : Nat) (s0 : Nat) (h0 : Nat) (g0 : Nat) (u0 : Nat) (v0 : Nat) (wb : Nat) (bb : Nat) (wl : Nat) (bl : Nat) (v1 : Nat) (va : Nat) (l1 : Nat) (la : Nat) (kw : Nat) (bt : Nat → Nat) (lw : Nat → Nat) (vg : Nat → Nat) (lg : Nat → Nat) (k1 : Nat) (k2 : Nat) (a : Nat) (b1 : Nat) (c1 : Nat) (b2 : Nat) (c2 : Nat) (cl : Nat → Nat) (nc : Nat) (wd : Nat → Nat) (nw : Nat) (sp : Nat) (he : Nat) (air : Nat) (sn : Nat) (a2 : Nat) (b3 : Nat) (c3 : Nat) (b4 : Nat) (c4 : Nat) (clt : Nat → Nat) (nct : Nat) (wdt : Nat → Nat) (nwt : Nat) (spt : Nat) (het : Nat) (airt : Nat) (snt : Nat) (hnn : nc ≤ 4 ∧ nw ≤ 8) (hok : okC cl nc) (hokd : okD wd nw) (hsp : sp ≤ 40) (hair : air ≤ 99 ∧ sn < 2147483648) (hnt : nct ≤ 4 ∧ nwt ≤ 8) (hhe : he ≤ 40) : mtI l D cI cC yX6_bestStand wsX6_bestStand ({ frames := 6, cells := 0, slots := 0, locals := 143 }) [.ref o] [(o, eEPR t0 a a2 w0 y0 s0 h0 g0 u0 v0), (w0, eWay wb wl), (wb, eRow bb kw), (bb, eArr cI 9 bt), (wl, eRow bl kw), (bl, eArr cI 9 lw), (s0, eSnd v1 l1), (v1, eRow va k1), (va, eArr cI 150 vg), (l1, eRow la k2), (la, eArr cI 150 lg), (a, eCan b1 b2 sp he air sn), (b1, eRow c1 (3 * nc)), (c1, eArr cI 12 cl), (b2, eRow c2 (3 * nw)), (c2, eArr cI 24 wd), (a2, eCan b3 b4 spt het airt snt), (b3, eRow c3 (3 * nct)), (c3, eArr cI 12 clt), (b4, eRow c4 (3 * nwt)), (c4, eArr cI 24 wdt)] (fun (r : Int32) ((kw', bt', lw', vg', lg', k1', k2', spt') : Nat × (Nat → Nat) × (Nat → Nat) × (Nat → Nat) × (Nat → Nat) × Nat × Nat × Nat) => r = (nI ((argM (fun x => cntClr cl nc air sn wd nw x he) (fun x => rentM cl nc air sn wd nw x) 41).1))) (fun ((kw', bt', lw', vg', lg', k1', k2', spt') : Nat × (Nat → Nat) × (Nat → Nat) × (Nat → Nat) × (Nat → Nat) × Nat × Nat × Nat) => [(o, eEPR t0 a a2 w0 y0 s0 h0 g0 u0 v0), (w0, eWay wb wl), (wb, eRow bb kw'), (bb, eArr cI 9 bt'), (wl, eRow bl kw'), (bl, eArr cI 9 lw'), (s0, eSnd v1 l1), (v1, eRow va k1'), (va, eArr cI 150 vg'), (l1, eRow la k2'), (la, eArr cI 150 lg'), (a, eCan b1 b2 sp he air sn), (b1, eRow c1 (3 * nc)), (c1, eArr cI 12 cl), (b2, eRow c2 (3 * nw)), (c2, eArr cI 24 wd), (a2, eCan b3 b4 spt' he air sn), (b3, eRow c3 (3 * nc)), (c3, eArr cI 12 (cpN clt cl (3 * nc))), (b4, eRow c4 (3 * nw)), (c4, eArr cI 24 (cpN wdt wd (3 * nw)))]) := by
  refine mtI_of (cc := cX6_bestStand) (maxL := 7) (ret := (some .int)) (by decide) rfl rfl ?_
  intro p e s m below meth c A hx hb hml hr hts hown hlocks hN hA hK hP hD hS ls hl
  have hown : s.vm.findClass RX6 = some m.cls := hown
  have hl : lv_has ls 7 [(0, .ref o)] := hl
  obtain ⟨H, hHe⟩ : ∃ H, H = s.heap := ⟨_, rfl⟩
  rw [← hHe] at hP ⊢
  have hS : va_S A s.heap H [] := by rw [hHe]; exact va_S.rf
  have fl23 := hts (.fieldLink RX6 23 "EchoPaysRent" "trial" "LEchoPaysRent$Canyon;") (by decide +kernel)
  have inX6 : ∀ w ∈ wsX60, w ∈ wsX6_bestStand := by decide +kernel
  have fl19 := hts (.fieldLink RX6 19 "EchoPaysRent" "canyon" "LEchoPaysRent$Canyon;") (by decide +kernel)
  have fn151 : (Cond.fieldLinkNest RX6 151 "EchoPaysRent$Canyon" "speaker" "I" "EchoPaysRent").before ([.ref o] : List Value).toArray s = true := nz_use hN (List.mem_of_getElem? (i := 1) rfl)
  have inX0 : ∀ w ∈ wsX00, w ∈ wsX6_bestStand := by decide +kernel
  have fn110 : (Cond.fieldLinkNest RX6 110 "EchoPaysRent$Canyon" "hearer" "I" "EchoPaysRent").before ([.ref o] : List Value).toArray s = true := nz_use hN (List.mem_of_getElem? (i := 2) rfl)
  refine lv_iconst (v := (nI 0)) hx hb dX6_bestStand_0 (by decide) ?_
  refine lv_istore_n (lv' := [(1, .int (nI 0)), (0, .ref o)]) hx hb dX6_bestStand_1 rfl hl (by decide) rfl (fun ls hl => ?_)
  refine lv_iconst (v := (iI (-1))) hx hb dX6_bestStand_2 (by decide) ?_
  refine lv_istore_n (lv' := [(2, .int (iI (-1))), (1, .int (nI 0)), (0, .ref o)]) hx hb dX6_bestStand_3 rfl hl (by decide) rfl (fun ls hl => ?_)
  refine lv_iconst (v := (iI (-1))) hx hb dX6_bestStand_4 (by decide) ?_
  refine lv_istore_n (lv' := [(3, .int (iI (-1))), (2, .int (iI (-1))), (1, .int (nI 0)), (0, .ref o)]) hx hb dX6_bestStand_5 rfl hl (by decide) rfl (fun ls hl => ?_)
  refine lv_aload_n hx hb dX6_bestStand_6 rfl (lv_at hl 3 rfl) ?_
  refine va_get (D := D) (ci := 6) (v := .ref a2) (C := RX6) (T := TX6) (N := 10) hx hb hts inX6 hown hK hP 0 rfl rfl 2 (by decide) fl23 (fun _ h9 => h9) rfl dX6_bestStand_7 ?_
  refine lv_aload_n hx hb dX6_bestStand_10 rfl (lv_at hl 3 rfl) ?_
  refine va_get (D := D) (ci := 6) (v := .ref a) (C := RX6) (T := TX6) (N := 10) hx hb hts inX6 hown hK hP 0 rfl rfl 1 (by decide) fl19 (fun _ h9 => h9) rfl dX6_bestStand_11 ?_
  refine k_Vv (q := (RX0, TX0, 6)) (ci := 0) (As := [.ref a]) (wr := [(o, eEPR t0 a a2 w0 y0 s0 h0 g0 u0 v0), (w0, eWay wb wl), (wb, eRow bb kw), (bb, eArr cI 9 bt), (wl, eRow bl kw), (bl, eArr cI 9 lw), (s0, eSnd v1 l1), (v1, eRow va k1), (va, eArr cI 150 vg), (l1, eRow la k2), (la, eArr cI 150 lg)]) ⟨hx, hb, hml, hown, hts⟩ (c_X0_copy l D cI cC a2 b3 c3 b4 c4 clt nct wdt nwt spt het airt snt a b1 c1 b2 c2 cl nc wd nw sp he air sn (by omega) (by omega) (by omega) (by omega)) (cwV 1 hts gX6_bestStand_X0_copy rfl rfl rfl (by decide +kernel) ⟨Nat.le_of_ble_eq_true rfl, Nat.le_of_ble_eq_true rfl⟩) rfl hl.1 rfl (Nat.le_of_ble_eq_true rfl) dX6_bestStand_14 ⟨Nat.zero_le _, Nat.zero_le _⟩ hN hK hP hD hS hA rfl (q0 := 16) rfl [16, 17, 18, 19, 20, 11, 12, 13, 14, 15] [0, 1, 2, 3, 4, 5, 6, 7, 8, 9, 10] rfl rfl ⟨rfl, rfl, by decide⟩ (fun u H locs w2 hP hD hS => ?_)
  refine lv_iconst (v := (nI 0)) hx hb dX6_bestStand_17 (by decide) ?_
  refine lv_istore (lv' := [(4, .int (nI 0)), (3, .int (iI (-1))), (2, .int (iI (-1))), (1, .int (nI 0)), (0, .ref o)]) hx hb dX6_bestStand_18 hl (by decide) rfl (fun ls hl => ?_)
  have loop20 : ∀ (nn20 : Nat) (x : Nat) (spt' : Nat) (kw' : Nat) (bt' : Nat → Nat) (lw' : Nat → Nat) (vg' : Nat → Nat) (lg' : Nat → Nat) (k1' : Nat) (k2' : Nat), 41 - x < nn20 → (x ≤ 41) → ∀ (H : Heap) (locs : List Loc), va_P D vwCl [(o, eEPR t0 a a2 w0 y0 s0 h0 g0 u0 v0), (w0, eWay wb wl), (wb, eRow bb kw'), (bb, eArr cI 9 bt'), (wl, eRow bl kw'), (bl, eArr cI 9 lw'), (s0, eSnd v1 l1), (v1, eRow va k1'), (va, eArr cI 150 vg'), (l1, eRow la k2'), (la, eArr cI 150 lg'), (a, eCan b1 b2 sp he air sn), (b1, eRow c1 (3 * nc)), (c1, eArr cI 12 cl), (b2, eRow c2 (3 * nw)), (c2, eArr cI 24 wd), (a2, eCan b3 b4 spt' he air sn), (b3, eRow c3 (3 * nc)), (c3, eArr cI 12 (cpN clt cl (3 * nc))), (b4, eRow c4 (3 * nw)), (c4, eArr cI 24 (cpN wdt wd (3 * nw)))] H → va_D A [(o, eEPR t0 a a2 w0 y0 s0 h0 g0 u0 v0), (w0, eWay wb wl), (wb, eRow bb kw'), (bb, eArr cI 9 bt'), (wl, eRow bl kw'), (bl, eArr cI 9 lw'), (s0, eSnd v1 l1), (v1, eRow va k1'), (va, eArr cI 150 vg'), (l1, eRow la k2'), (la, eArr cI 150 lg'), (a, eCan b1 b2 sp he air sn), (b1, eRow c1 (3 * nc)), (c1, eArr cI 12 cl), (b2, eRow c2 (3 * nw)), (c2, eArr cI 24 wd), (a2, eCan b3 b4 spt' he air sn), (b3, eRow c3 (3 * nc)), (c3, eArr cI 12 (cpN clt cl (3 * nc))), (b4, eRow c4 (3 * nw)), (c4, eArr cI 24 (cpN wdt wd (3 * nw)))] → va_S A s.heap H locs → ∀ ls : Array Slot, lv_has ls 7 [(4, .int (nI x)), (1, .int (nI ((argM (fun x => cntClr cl nc air sn wd nw x he) (fun x => rentM cl nc air sn wd nw x) x).1))), (2, .int (iI ((argM (fun x => cntClr cl nc air sn wd nw x he) (fun x => rentM cl nc air sn wd nw x) x).2.1))), (3, .int (iI ((argM (fun x => cntClr cl nc air sn wd nw x he) (fun x => rentM cl nc air sn wd nw x) x).2.2))), (0, .ref o)] → W p l e (headSpec wsX6_bestStand ({ frames := 6, cells := 0, slots := 0, locals := 143 })).room s m ([.ref o] : List Value).toArray below meth c H locs 0 0 (MQ below (va_Qi (fun (r : Int32) ((kw', bt', lw', vg', lg', k1', k2', spt') : Nat × (Nat → Nat) × (Nat → Nat) × (Nat → Nat) × (Nat → Nat) × Nat × Nat × Nat) => r = (nI ((argM (fun x => cntClr cl nc air sn wd nw x he) (fun x => rentM cl nc air sn wd nw x) 41).1))) (ctB D cI cC (fun ((kw', bt', lw', vg', lg', k1', k2', spt') : Nat × (Nat → Nat) × (Nat → Nat) × (Nat → Nat) × (Nat → Nat) × Nat × Nat × Nat) => [(o, eEPR t0 a a2 w0 y0 s0 h0 g0 u0 v0), (w0, eWay wb wl), (wb, eRow bb kw'), (bb, eArr cI 9 bt'), (wl, eRow bl kw'), (bl, eArr cI 9 lw'), (s0, eSnd v1 l1), (v1, eRow va k1'), (va, eArr cI 150 vg'), (l1, eRow la k2'), (la, eArr cI 150 lg'), (a, eCan b1 b2 sp he air sn), (b1, eRow c1 (3 * nc)), (c1, eArr cI 12 cl), (b2, eRow c2 (3 * nw)), (c2, eArr cI 24 wd), (a2, eCan b3 b4 spt' he air sn), (b3, eRow c3 (3 * nc)), (c3, eArr cI 12 (cpN clt cl (3 * nc))), (b4, eRow c4 (3 * nw)), (c4, eArr cI 24 (cpN wdt wd (3 * nw)))]) A) A) ([.ref o] : List Value).toArray s 0 0 A) (F0 m 20 ls []) := by
    intro nn20
    induction nn20 with
    | zero =>
      intro x spt' kw' bt' lw' vg' lg' k1' k2' hm3
      exact absurd hm3 (Nat.not_lt_zero _)
    | succ nn20 ih20 =>
      intro x spt' kw' bt' lw' vg' lg' k1' k2' hm3 hi4 H locs hP hD hS ls hl
      refine lv_iload hx hb dX6_bestStand_20 (lv_at hl 0 rfl) ?_
      refine lv_bipush (v := (nI 40)) hx hb dX6_bestStand_22 (by decide) ?_
      refine x_icmp_gt (tgt := 96) hx hb dX6_bestStand_24 (by decide) (by omega) (by omega) (fun h5 => ?_) (fun h5 => ?_)
      · obtain rfl : x = 41 := by omega
        refine lv_iload_n hx hb dX6_bestStand_96 rfl (lv_at hl 1 rfl) ?_
        exact x_iret hx hb hr hlocks dX6_bestStand_97 rfl (post := fun (r : Int32) ((kw', bt', lw', vg', lg', k1', k2', spt') : Nat × (Nat → Nat) × (Nat → Nat) × (Nat → Nat) × (Nat → Nat) × Nat × Nat × Nat) => r = (nI ((argM (fun x => cntClr cl nc air sn wd nw x he) (fun x => rentM cl nc air sn wd nw x) 41).1))) (w1 := fun ((kw', bt', lw', vg', lg', k1', k2', spt') : Nat × (Nat → Nat) × (Nat → Nat) × (Nat → Nat) × (Nat → Nat) × Nat × Nat × Nat) => [(o, eEPR t0 a a2 w0 y0 s0 h0 g0 u0 v0), (w0, eWay wb wl), (wb, eRow bb kw'), (bb, eArr cI 9 bt'), (wl, eRow bl kw'), (bl, eArr cI 9 lw'), (s0, eSnd v1 l1), (v1, eRow va k1'), (va, eArr cI 150 vg'), (l1, eRow la k2'), (la, eArr cI 150 lg'), (a, eCan b1 b2 sp he air sn), (b1, eRow c1 (3 * nc)), (c1, eArr cI 12 cl), (b2, eRow c2 (3 * nw)), (c2, eArr cI 24 wd), (a2, eCan b3 b4 spt' he air sn), (b3, eRow c3 (3 * nc)), (c3, eArr cI 12 (cpN clt cl (3 * nc))), (b4, eRow c4 (3 * nw)), (c4, eArr cI 24 (cpN wdt wd (3 * nw)))]) (kw', bt', lw', vg', lg', k1', k2', spt') rfl hK hP hD hS
      · have hbd := argM_bd (F := (fun x => cntClr cl nc air sn wd nw x he)) (G := (fun x => rentM cl nc air sn wd nw x)) (fun y => cntClr_le cl nc air sn wd nw y he) (fun y => Nat.le_trans (rentM_le cl nc air sn wd nw y) (by omega)) x
        refine lv_aload_n hx hb dX6_bestStand_27 rfl (lv_at hl 4 rfl) ?_
        refine va_get (D := D) (ci := 6) (v := .ref a2) (C := RX6) (T := TX6) (N := 10) hx hb hts inX6 hown hK hP 0 rfl rfl 2 (by decide) fl23 (fun _ h9 => h9) rfl dX6_bestStand_28 ?_
        refine lv_iload hx hb dX6_bestStand_31 (lv_at hl 0 rfl) ?_
        refine va_putN (D := D) (ci := 0) (v := .int (nI x)) (ty := .int) (C := RX0) (T := TX0) (N := 6) hx hb hts inX0 tyX0 tyX0_ok nmX0 hown hK hP hD hS 16 rfl rfl 2 (by decide) fn151 (fun _ h9 => h9) rfl (by decide +kernel) rfl rfl (Nat.le_of_ble_eq_true rfl) dX6_bestStand_33 (fun H locs hP hD hS => ?_)
        have hP : va_P D vwCl [(o, eEPR t0 a a2 w0 y0 s0 h0 g0 u0 v0), (w0, eWay wb wl), (wb, eRow bb kw'), (bb, eArr cI 9 bt'), (wl, eRow bl kw'), (bl, eArr cI 9 lw'), (s0, eSnd v1 l1), (v1, eRow va k1'), (va, eArr cI 150 vg'), (l1, eRow la k2'), (la, eArr cI 150 lg'), (a, eCan b1 b2 sp he air sn), (b1, eRow c1 (3 * nc)), (c1, eArr cI 12 cl), (b2, eRow c2 (3 * nw)), (c2, eArr cI 24 wd), (a2, eCan b3 b4 x he air sn), (b3, eRow c3 (3 * nc)), (c3, eArr cI 12 (cpN clt cl (3 * nc))), (b4, eRow c4 (3 * nw)), (c4, eArr cI 24 (cpN wdt wd (3 * nw)))] H := hP
        have hD : va_D A [(o, eEPR t0 a a2 w0 y0 s0 h0 g0 u0 v0), (w0, eWay wb wl), (wb, eRow bb kw'), (bb, eArr cI 9 bt'), (wl, eRow bl kw'), (bl, eArr cI 9 lw'), (s0, eSnd v1 l1), (v1, eRow va k1'), (va, eArr cI 150 vg'), (l1, eRow la k2'), (la, eArr cI 150 lg'), (a, eCan b1 b2 sp he air sn), (b1, eRow c1 (3 * nc)), (c1, eArr cI 12 cl), (b2, eRow c2 (3 * nw)), (c2, eArr cI 24 wd), (a2, eCan b3 b4 x he air sn), (b3, eRow c3 (3 * nc)), (c3, eArr cI 12 (cpN clt cl (3 * nc))), (b4, eRow c4 (3 * nw)), (c4, eArr cI 24 (cpN wdt wd (3 * nw)))] := hD
        refine lv_aload_n hx hb dX6_bestStand_36 rfl (lv_at hl 4 rfl) ?_
        refine lv_aload_n hx hb dX6_bestStand_37 rfl (lv_at hl 4 rfl) ?_
        refine va_get (D := D) (ci := 6) (v := .ref a2) (C := RX6) (T := TX6) (N := 10) hx hb hts inX6 hown hK hP 0 rfl rfl 2 (by decide) fl23 (fun _ h9 => h9) rfl dX6_bestStand_38 ?_
        refine lv_aload_n hx hb dX6_bestStand_41 rfl (lv_at hl 4 rfl) ?_
        refine va_get (D := D) (ci := 6) (v := .ref a2) (C := RX6) (T := TX6) (N := 10) hx hb hts inX6 hown hK hP 0 rfl rfl 2 (by decide) fl23 (fun _ h9 => h9) rfl dX6_bestStand_42 ?_
        refine va_getN (D := D) (ci := 0) (v := .int (nI he)) (C := RX0) (T := TX0) (N := 6) hx hb hts inX0 hown hK hP 16 rfl rfl 3 (by decide) fn110 (fun _ h9 => h9) rfl dX6_bestStand_45 ?_
        refine k_V (q := (RX6, TX6, 10)) (ci := 6) (As := [.ref a2, .int (nI he)]) (wr := [(a, eCan b1 b2 sp he air sn), (b1, eRow c1 (3 * nc)), (c1, eArr cI 12 cl), (b2, eRow c2 (3 * nw)), (c2, eArr cI 24 wd)]) ⟨hx, hb, hml, hown, hts⟩ (c_X6_clearCount l D cI cC o t0 a a2 w0 y0 s0 h0 g0 u0 v0 wb bb wl bl v1 va l1 la kw' bt' lw' vg' lg' k1' k2' a2 b3 c3 b4 c4 (cpN clt cl (3 * nc)) nc (cpN wdt wd (3 * nw)) nw x he air sn he (by omega) (by omega) (okC_same (sameC_cp clt cl nc) hok) (okD_same (sameC_cp wdt wd nw) hokd) (by omega) (by omega)) (cwV 2 hts gX6_bestStand_X6_clearCount rfl rfl rfl (by decide +kernel) ⟨Nat.le_of_ble_eq_true rfl, Nat.le_of_ble_eq_true rfl⟩) rfl hl.1 rfl (Nat.le_of_ble_eq_true rfl) dX6_bestStand_48 ⟨Nat.zero_le _, Nat.zero_le _⟩ hN hK hP hD hS hA rfl (q0 := 0) rfl [0, 1, 2, 3, 4, 5, 6, 7, 8, 9, 10, 16, 17, 18, 19, 20] [11, 12, 13, 14, 15] rfl rfl ⟨rfl, rfl, by decide⟩ (fun r6 u H locs w9 hP hD hS => ?_)
        obtain ⟨bt'7, lw'8⟩ := u
        obtain ⟨rfl, h10⟩ : r6 = (nI (cntClr (cpN clt cl (3 * nc)) nc air sn (cpN wdt wd (3 * nw)) nw x he)) ∧ repW bt'7 lw'8 (waysM (cpN clt cl (3 * nc)) air sn x he nc) := w9
        refine x_top (congrArg nI (cntClr_same (sameC_cp clt cl nc) (sameC_cp wdt wd nw) air sn x he)) ?_
        have hcl := cntClr_le cl nc air sn wd nw x he
        refine lv_istore (lv' := [(5, .int (nI (cntClr cl nc air sn wd nw x he))), (4, .int (nI x)), (1, .int (nI ((argM (fun x => cntClr cl nc air sn wd nw x he) (fun x => rentM cl nc air sn wd nw x) x).1))), (2, .int (iI ((argM (fun x => cntClr cl nc air sn wd nw x he) (fun x => rentM cl nc air sn wd nw x) x).2.1))), (3, .int (iI ((argM (fun x => cntClr cl nc air sn wd nw x he) (fun x => rentM cl nc air sn wd nw x) x).2.2))), (0, .ref o)]) hx hb dX6_bestStand_51 hl (by decide) rfl (fun ls hl => ?_)
        refine lv_aload_n hx hb dX6_bestStand_53 rfl (lv_at hl 5 rfl) ?_
        refine lv_aload_n hx hb dX6_bestStand_54 rfl (lv_at hl 5 rfl) ?_
        refine va_get (D := D) (ci := 6) (v := .ref a2) (C := RX6) (T := TX6) (N := 10) hx hb hts inX6 hown hK hP 5 rfl rfl 2 (by decide) fl23 (fun _ h9 => h9) rfl dX6_bestStand_55 ?_
        refine k_V (q := (RX6, TX6, 10)) (ci := 6) (As := [.ref a2]) (wr := [(a, eCan b1 b2 sp he air sn), (b1, eRow c1 (3 * nc)), (c1, eArr cI 12 cl), (b2, eRow c2 (3 * nw)), (c2, eArr cI 24 wd)]) ⟨hx, hb, hml, hown, hts⟩ (c_X6_rentOf l D cI cC o t0 a a2 w0 y0 s0 h0 g0 u0 v0 wb bb wl bl v1 va l1 la (lenW (waysM (cpN clt cl (3 * nc)) air sn x he nc)) bt'7 lw'8 ((hearM (cpN clt cl (3 * nc)) nc air sn (cpN wdt wd (3 * nw)) nw x he (2 ^ nw - 1)).2) ((hearM (cpN clt cl (3 * nc)) nc air sn (cpN wdt wd (3 * nw)) nw x he (2 ^ nw - 1)).1) 150 150 a2 b3 c3 b4 c4 (cpN clt cl (3 * nc)) nc (cpN wdt wd (3 * nw)) nw x he air sn (by omega) (okC_same (sameC_cp clt cl nc) hok) (okD_same (sameC_cp wdt wd nw) hokd) (by omega) (by omega)) (cwV 1 hts gX6_bestStand_X6_rentOf rfl rfl rfl (by decide +kernel) ⟨Nat.le_of_ble_eq_true rfl, Nat.le_of_ble_eq_true rfl⟩) rfl hl.1 rfl (Nat.le_of_ble_eq_true rfl) dX6_bestStand_58 ⟨Nat.zero_le _, Nat.zero_le _⟩ hN hK hP hD hS hA rfl (q0 := 5) rfl [5, 6, 7, 8, 9, 10, 11, 12, 13, 14, 15, 16, 17, 18, 19, 20] [0, 1, 2, 3, 4] rfl rfl ⟨rfl, rfl, by decide⟩ (fun r11 u H locs w14 hP hD hS => ?_)
        obtain ⟨bt'12, lw'13⟩ := u
        obtain ⟨rfl, h15⟩ : r11 = (nI (rentM (cpN clt cl (3 * nc)) nc air sn (cpN wdt wd (3 * nw)) nw x)) ∧ repW bt'12 lw'13 (waysM (cpN clt cl (3 * nc)) air sn x x nc) := w14
        refine x_top (congrArg nI (rentM_same (sameC_cp clt cl nc) (sameC_cp wdt wd nw) air sn x)) ?_
        have hrn := rentM_le cl nc air sn wd nw x
        refine lv_istore (lv' := [(6, .int (nI (rentM cl nc air sn wd nw x))), (5, .int (nI (cntClr cl nc air sn wd nw x he))), (4, .int (nI x)), (1, .int (nI ((argM (fun x => cntClr cl nc air sn wd nw x he) (fun x => rentM cl nc air sn wd nw x) x).1))), (2, .int (iI ((argM (fun x => cntClr cl nc air sn wd nw x he) (fun x => rentM cl nc air sn wd nw x) x).2.1))), (3, .int (iI ((argM (fun x => cntClr cl nc air sn wd nw x he) (fun x => rentM cl nc air sn wd nw x) x).2.2))), (0, .ref o)]) hx hb dX6_bestStand_61 hl (by decide) rfl (fun ls hl => ?_)
        refine lv_iload hx hb dX6_bestStand_63 (lv_at hl 1 rfl) ?_
        refine lv_iload_n hx hb dX6_bestStand_65 rfl (lv_at hl 4 rfl) ?_
        refine x_top2 (nI_iI _) ?_
        refine z_icmp_gt (tgt := 81) hx hb dX6_bestStand_66 (by decide) (by omega) (by omega) (fun h16 => ?_) (fun h16 => ?_)
        · refine lv_iload hx hb dX6_bestStand_81 (lv_at hl 2 rfl) ?_
          refine lv_istore_n (lv' := [(1, .int (nI x)), (6, .int (nI (rentM cl nc air sn wd nw x))), (5, .int (nI (cntClr cl nc air sn wd nw x he))), (4, .int (nI x)), (2, .int (iI ((argM (fun x => cntClr cl nc air sn wd nw x he) (fun x => rentM cl nc air sn wd nw x) x).2.1))), (3, .int (iI ((argM (fun x => cntClr cl nc air sn wd nw x he) (fun x => rentM cl nc air sn wd nw x) x).2.2))), (0, .ref o)]) hx hb dX6_bestStand_83 rfl hl (by decide) rfl (fun ls hl => ?_)
          refine lv_iload hx hb dX6_bestStand_84 (lv_at hl 2 rfl) ?_
          refine lv_istore_n (lv' := [(2, .int (nI (cntClr cl nc air sn wd nw x he))), (1, .int (nI x)), (6, .int (nI (rentM cl nc air sn wd nw x))), (5, .int (nI (cntClr cl nc air sn wd nw x he))), (4, .int (nI x)), (3, .int (iI ((argM (fun x => cntClr cl nc air sn wd nw x he) (fun x => rentM cl nc air sn wd nw x) x).2.2))), (0, .ref o)]) hx hb dX6_bestStand_86 rfl hl (by decide) rfl (fun ls hl => ?_)
          refine lv_iload hx hb dX6_bestStand_87 (lv_at hl 2 rfl) ?_
          refine lv_istore_n (lv' := [(3, .int (nI (rentM cl nc air sn wd nw x))), (2, .int (nI (cntClr cl nc air sn wd nw x he))), (1, .int (nI x)), (6, .int (nI (rentM cl nc air sn wd nw x))), (5, .int (nI (cntClr cl nc air sn wd nw x he))), (4, .int (nI x)), (0, .ref o)]) hx hb dX6_bestStand_89 rfl hl (by decide) rfl (fun ls hl => ?_)
          refine lv_iinc (v := (nI (x + 1))) (lv' := [(4, .int (nI (x + 1))), (3, .int (nI (rentM cl nc air sn wd nw x))), (2, .int (nI (cntClr cl nc air sn wd nw x he))), (1, .int (nI x)), (6, .int (nI (rentM cl nc air sn wd nw x))), (5, .int (nI (cntClr cl nc air sn wd nw x he))), (0, .ref o)]) hx hb dX6_bestStand_90 hl (k := 5) rfl (nI_inc _ 1) (by decide) rfl (fun ls hl => ?_)
          refine lv_goto (tgt := 20) hx hb dX6_bestStand_93 (by decide) ?_
          have hl : lv_has ls 7 [(4, .int (nI (x + 1))), (1, .int (nI ((argM (fun x => cntClr cl nc air sn wd nw x he) (fun x => rentM cl nc air sn wd nw x) (x + 1)).1))), (2, .int (iI ((argM (fun x => cntClr cl nc air sn wd nw x he) (fun x => rentM cl nc air sn wd nw x) (x + 1)).2.1))), (3, .int (iI ((argM (fun x => cntClr cl nc air sn wd nw x he) (fun x => rentM cl nc air sn wd nw x) (x + 1)).2.2))), (0, .ref o)] := by have h := hl; have e := argM_t (F := (fun x => cntClr cl nc air sn wd nw x he)) (G := (fun x => rentM cl nc air sn wd nw x)) (x := x) (by first | exact Or.inl (by omega) | exact Or.inr ⟨by omega, by omega⟩); rw [e]; have h := lv_sub h [0, 3, 2, 1, 6] rfl; simp only [nI_iI] at h ⊢; exact h
          exact ih20 (x + 1) x (lenW (waysM (cpN clt cl (3 * nc)) air sn x x nc)) bt'12 lw'13 ((hearM (cpN clt cl (3 * nc)) nc air sn (cpN wdt wd (3 * nw)) nw x x (2 ^ nw - 1)).2) ((hearM (cpN clt cl (3 * nc)) nc air sn (cpN wdt wd (3 * nw)) nw x x (2 ^ nw - 1)).1) 150 150 (by omega) (by omega) _ _ (hP.sub [5, 6, 7, 8, 9, 10, 11, 12, 13, 14, 15, 0, 1, 2, 3, 4, 16, 17, 18, 19, 20] rfl) (hD.sub [5, 6, 7, 8, 9, 10, 11, 12, 13, 14, 15, 0, 1, 2, 3, 4, 16, 17, 18, 19, 20] rfl rfl) hS _ (lv_sub hl [0, 1, 2, 3, 4] rfl)
        · refine lv_iload hx hb dX6_bestStand_69 (lv_at hl 1 rfl) ?_
          refine lv_iload_n hx hb dX6_bestStand_71 rfl (lv_at hl 4 rfl) ?_
          refine x_top2 (nI_iI _) ?_
          refine z_icmp_ne (tgt := 90) hx hb dX6_bestStand_72 (by decide) (by omega) (by omega) (fun h17 => ?_) (fun h17 => ?_)
          · refine lv_iinc (v := (nI (x + 1))) (lv' := [(4, .int (nI (x + 1))), (6, .int (nI (rentM cl nc air sn wd nw x))), (5, .int (nI (cntClr cl nc air sn wd nw x he))), (1, .int (nI ((argM (fun x => cntClr cl nc air sn wd nw x he) (fun x => rentM cl nc air sn wd nw x) x).1))), (2, .int (iI ((argM (fun x => cntClr cl nc air sn wd nw x he) (fun x => rentM cl nc air sn wd nw x) x).2.1))), (3, .int (iI ((argM (fun x => cntClr cl nc air sn wd nw x he) (fun x => rentM cl nc air sn wd nw x) x).2.2))), (0, .ref o)]) hx hb dX6_bestStand_90 hl (k := 2) rfl (nI_inc _ 1) (by decide) rfl (fun ls hl => ?_)
            refine lv_goto (tgt := 20) hx hb dX6_bestStand_93 (by decide) ?_
            have hl : lv_has ls 7 [(4, .int (nI (x + 1))), (1, .int (nI ((argM (fun x => cntClr cl nc air sn wd nw x he) (fun x => rentM cl nc air sn wd nw x) (x + 1)).1))), (2, .int (iI ((argM (fun x => cntClr cl nc air sn wd nw x he) (fun x => rentM cl nc air sn wd nw x) (x + 1)).2.1))), (3, .int (iI ((argM (fun x => cntClr cl nc air sn wd nw x he) (fun x => rentM cl nc air sn wd nw x) (x + 1)).2.2))), (0, .ref o)] := by have h := hl; have e := argM_f (F := (fun x => cntClr cl nc air sn wd nw x he)) (G := (fun x => rentM cl nc air sn wd nw x)) (x := x) (fun hh => by rcases hh with hh | hh <;> (try dsimp only at hh) <;> omega); rw [e]; have h := lv_sub h [0, 3, 4, 5, 6] rfl; simp only [nI_iI] at h ⊢; exact h
            exact ih20 (x + 1) x (lenW (waysM (cpN clt cl (3 * nc)) air sn x x nc)) bt'12 lw'13 ((hearM (cpN clt cl (3 * nc)) nc air sn (cpN wdt wd (3 * nw)) nw x x (2 ^ nw - 1)).2) ((hearM (cpN clt cl (3 * nc)) nc air sn (cpN wdt wd (3 * nw)) nw x x (2 ^ nw - 1)).1) 150 150 (by omega) (by omega) _ _ (hP.sub [5, 6, 7, 8, 9, 10, 11, 12, 13, 14, 15, 0, 1, 2, 3, 4, 16, 17, 18, 19, 20] rfl) (hD.sub [5, 6, 7, 8, 9, 10, 11, 12, 13, 14, 15, 0, 1, 2, 3, 4, 16, 17, 18, 19, 20] rfl rfl) hS _ (lv_sub hl [0, 1, 2, 3, 4] rfl)
          · refine lv_iload hx hb dX6_bestStand_75 (lv_at hl 0 rfl) ?_
            refine lv_iload_n hx hb dX6_bestStand_77 rfl (lv_at hl 5 rfl) ?_
            refine x_top2 (nI_iI _) ?_
            refine z_icmp_le (tgt := 90) hx hb dX6_bestStand_78 (by decide) (by omega) (by omega) (fun h18 => ?_) (fun h18 => ?_)
            · refine lv_iinc (v := (nI (x + 1))) (lv' := [(4, .int (nI (x + 1))), (6, .int (nI (rentM cl nc air sn wd nw x))), (5, .int (nI (cntClr cl nc air sn wd nw x he))), (1, .int (nI ((argM (fun x => cntClr cl nc air sn wd nw x he) (fun x => rentM cl nc air sn wd nw x) x).1))), (2, .int (iI ((argM (fun x => cntClr cl nc air sn wd nw x he) (fun x => rentM cl nc air sn wd nw x) x).2.1))), (3, .int (iI ((argM (fun x => cntClr cl nc air sn wd nw x he) (fun x => rentM cl nc air sn wd nw x) x).2.2))), (0, .ref o)]) hx hb dX6_bestStand_90 hl (k := 2) rfl (nI_inc _ 1) (by decide) rfl (fun ls hl => ?_)
              refine lv_goto (tgt := 20) hx hb dX6_bestStand_93 (by decide) ?_
              have hl : lv_has ls 7 [(4, .int (nI (x + 1))), (1, .int (nI ((argM (fun x => cntClr cl nc air sn wd nw x he) (fun x => rentM cl nc air sn wd nw x) (x + 1)).1))), (2, .int (iI ((argM (fun x => cntClr cl nc air sn wd nw x he) (fun x => rentM cl nc air sn wd nw x) (x + 1)).2.1))), (3, .int (iI ((argM (fun x => cntClr cl nc air sn wd nw x he) (fun x => rentM cl nc air sn wd nw x) (x + 1)).2.2))), (0, .ref o)] := by have h := hl; have e := argM_f (F := (fun x => cntClr cl nc air sn wd nw x he)) (G := (fun x => rentM cl nc air sn wd nw x)) (x := x) (fun hh => by rcases hh with hh | hh <;> (try dsimp only at hh) <;> omega); rw [e]; have h := lv_sub h [0, 3, 4, 5, 6] rfl; simp only [nI_iI] at h ⊢; exact h
              exact ih20 (x + 1) x (lenW (waysM (cpN clt cl (3 * nc)) air sn x x nc)) bt'12 lw'13 ((hearM (cpN clt cl (3 * nc)) nc air sn (cpN wdt wd (3 * nw)) nw x x (2 ^ nw - 1)).2) ((hearM (cpN clt cl (3 * nc)) nc air sn (cpN wdt wd (3 * nw)) nw x x (2 ^ nw - 1)).1) 150 150 (by omega) (by omega) _ _ (hP.sub [5, 6, 7, 8, 9, 10, 11, 12, 13, 14, 15, 0, 1, 2, 3, 4, 16, 17, 18, 19, 20] rfl) (hD.sub [5, 6, 7, 8, 9, 10, 11, 12, 13, 14, 15, 0, 1, 2, 3, 4, 16, 17, 18, 19, 20] rfl rfl) hS _ (lv_sub hl [0, 1, 2, 3, 4] rfl)
            · refine lv_iload hx hb dX6_bestStand_81 (lv_at hl 2 rfl) ?_
              refine lv_istore_n (lv' := [(1, .int (nI x)), (6, .int (nI (rentM cl nc air sn wd nw x))), (5, .int (nI (cntClr cl nc air sn wd nw x he))), (4, .int (nI x)), (2, .int (iI ((argM (fun x => cntClr cl nc air sn wd nw x he) (fun x => rentM cl nc air sn wd nw x) x).2.1))), (3, .int (iI ((argM (fun x => cntClr cl nc air sn wd nw x he) (fun x => rentM cl nc air sn wd nw x) x).2.2))), (0, .ref o)]) hx hb dX6_bestStand_83 rfl hl (by decide) rfl (fun ls hl => ?_)
              refine lv_iload hx hb dX6_bestStand_84 (lv_at hl 2 rfl) ?_
              refine lv_istore_n (lv' := [(2, .int (nI (cntClr cl nc air sn wd nw x he))), (1, .int (nI x)), (6, .int (nI (rentM cl nc air sn wd nw x))), (5, .int (nI (cntClr cl nc air sn wd nw x he))), (4, .int (nI x)), (3, .int (iI ((argM (fun x => cntClr cl nc air sn wd nw x he) (fun x => rentM cl nc air sn wd nw x) x).2.2))), (0, .ref o)]) hx hb dX6_bestStand_86 rfl hl (by decide) rfl (fun ls hl => ?_)
              refine lv_iload hx hb dX6_bestStand_87 (lv_at hl 2 rfl) ?_
              refine lv_istore_n (lv' := [(3, .int (nI (rentM cl nc air sn wd nw x))), (2, .int (nI (cntClr cl nc air sn wd nw x he))), (1, .int (nI x)), (6, .int (nI (rentM cl nc air sn wd nw x))), (5, .int (nI (cntClr cl nc air sn wd nw x he))), (4, .int (nI x)), (0, .ref o)]) hx hb dX6_bestStand_89 rfl hl (by decide) rfl (fun ls hl => ?_)
              refine lv_iinc (v := (nI (x + 1))) (lv' := [(4, .int (nI (x + 1))), (3, .int (nI (rentM cl nc air sn wd nw x))), (2, .int (nI (cntClr cl nc air sn wd nw x he))), (1, .int (nI x)), (6, .int (nI (rentM cl nc air sn wd nw x))), (5, .int (nI (cntClr cl nc air sn wd nw x he))), (0, .ref o)]) hx hb dX6_bestStand_90 hl (k := 5) rfl (nI_inc _ 1) (by decide) rfl (fun ls hl => ?_)
              refine lv_goto (tgt := 20) hx hb dX6_bestStand_93 (by decide) ?_
              have hl : lv_has ls 7 [(4, .int (nI (x + 1))), (1, .int (nI ((argM (fun x => cntClr cl nc air sn wd nw x he) (fun x => rentM cl nc air sn wd nw x) (x + 1)).1))), (2, .int (iI ((argM (fun x => cntClr cl nc air sn wd nw x he) (fun x => rentM cl nc air sn wd nw x) (x + 1)).2.1))), (3, .int (iI ((argM (fun x => cntClr cl nc air sn wd nw x he) (fun x => rentM cl nc air sn wd nw x) (x + 1)).2.2))), (0, .ref o)] := by have h := hl; have e := argM_t (F := (fun x => cntClr cl nc air sn wd nw x he)) (G := (fun x => rentM cl nc air sn wd nw x)) (x := x) (by first | exact Or.inl (by omega) | exact Or.inr ⟨by omega, by omega⟩); rw [e]; have h := lv_sub h [0, 3, 2, 1, 6] rfl; simp only [nI_iI] at h ⊢; exact h
              exact ih20 (x + 1) x (lenW (waysM (cpN clt cl (3 * nc)) air sn x x nc)) bt'12 lw'13 ((hearM (cpN clt cl (3 * nc)) nc air sn (cpN wdt wd (3 * nw)) nw x x (2 ^ nw - 1)).2) ((hearM (cpN clt cl (3 * nc)) nc air sn (cpN wdt wd (3 * nw)) nw x x (2 ^ nw - 1)).1) 150 150 (by omega) (by omega) _ _ (hP.sub [5, 6, 7, 8, 9, 10, 11, 12, 13, 14, 15, 0, 1, 2, 3, 4, 16, 17, 18, 19, 20] rfl) (hD.sub [5, 6, 7, 8, 9, 10, 11, 12, 13, 14, 15, 0, 1, 2, 3, 4, 16, 17, 18, 19, 20] rfl rfl) hS _ (lv_sub hl [0, 1, 2, 3, 4] rfl)
  exact loop20 _ 0 sp kw bt lw vg lg k1 k2 (Nat.lt_succ_self _) (by omega) _ _ (hP.sub [0, 1, 2, 3, 4, 5, 6, 7, 8, 9, 10, 16, 17, 18, 19, 20, 11, 12, 13, 14, 15] rfl) (hD.sub [0, 1, 2, 3, 4, 5, 6, 7, 8, 9, 10, 16, 17, 18, 19, 20, 11, 12, 13, 14, 15] rfl rfl) hS _ (lv_sub hl [0, 3, 2, 1, 4] rfl)

/-- whether all is as EARS heard, said at x -/
def earB (cl : Nat → Nat) (nc air sn : Nat) (wd : Nat → Nat) (nw : Nat) (eg : Nat → Nat) (x : Nat) : Nat → Bool := fun i => decide ((hearM cl nc air sn wd nw x (eg (3 * i + 0)) (2 ^ nw - 1)).2 (eg (3 * i + 1)) = eg (3 * i + 2))
def asM (cl : Nat → Nat) (nc air sn : Nat) (wd : Nat → Nat) (nw : Nat) (eg : Nat → Nat) (ne x : Nat) : Bool := allB (earB cl nc air sn wd nw eg x) ne
theorem asM_same {cl cl' wd wd' : Nat → Nat} {nc nw : Nat} (h : sameC cl cl' nc) (h2 : sameC wd wd' nw) (air sn : Nat) (eg : Nat → Nat) (ne x : Nat) : asM cl nc air sn wd nw eg ne x = asM cl' nc air sn wd' nw eg ne x := by
  unfold asM
  congr 1
  funext i
  unfold earB
  rw [hearM_same h h2]

set_option maxRecDepth 100000 in
set_option maxHeartbeats 4000000 in
theorem c_X6_isAsEarsHeard (l : Launch) (D : va_G) (cI cC : ClassId) (o : Nat) (t0 : Nat) (a1 : Nat) (a2 : Nat) (w0 : Nat) (y0 : Nat) (s0 : Nat) (h0 : Nat) (g0 : Nat) (u0 : Nat) (v0 : Nat) (wb : Nat) (bb : Nat) (wl : Nat) (bl : Nat) (v1 : Nat) (va : Nat) (l1 : Nat) (la : Nat) (kw : Nat) (bt : Nat → Nat) (lw : Nat → Nat) (vg : Nat → Nat) (lg : Nat → Nat) (k1 : Nat) (k2 : Nat) (a : Nat) (b1 : Nat) (c1 : Nat) (b2 : Nat) (c2 : Nat) (cl : Nat → Nat) (nc : Nat) (wd : Nat → Nat) (nw : Nat) (sp : Nat) (he : Nat) (air : Nat) (sn : Nat) (ea : Nat) (eg : Nat → Nat) (ne : Nat) (hnn : nc ≤ 4 ∧ nw ≤ 8) (hok : okC cl nc) (hokd : okD wd nw) (hsp : sp ≤ 40) (hair : air ≤ 99 ∧ sn < 2147483648) (hne : ne ≤ 9) (hoe : ∀ i, i < ne → eg (3 * i + 0) ≤ 40 ∧ eg (3 * i + 1) ≤ 149 ∧ eg (3 * i + 2) ≤ 8) : mtI l D cI cC yX6_isAsEarsHeard wsX6_isAsEarsHeard ({ frames := 5, cells := 0, slots := 0, locals := 121 }) [.ref o, .ref a] [(o, eEPR t0 a1 a2 w0 y0 s0 h0 g0 u0 v0), (w0, eWay wb wl), (wb, eRow bb kw), (bb, eArr cI 9 bt), (wl, eRow bl kw), (bl, eArr cI 9 lw), (s0, eSnd v1 l1), (v1, eRow va k1), (va, eArr cI 150 vg), (l1, eRow la k2), (la, eArr cI 150 lg), (a, eCan b1 b2 sp he air sn), (b1, eRow c1 (3 * nc)), (c1, eArr cI 12 cl), (b2, eRow c2 (3 * nw)), (c2, eArr cI 24 wd), (v0, eRow ea (3 * ne)), (ea, eArr cI 27 eg)] (fun (r : Int32) ((kw', bt', lw', vg', lg', k1', k2') : Nat × (Nat → Nat) × (Nat → Nat) × (Nat → Nat) × (Nat → Nat) × Nat × Nat) => (r = (nI 1) ∧ asM cl nc air sn wd nw eg ne sp = true) ∨ (r = (nI 0) ∧ asM cl nc air sn wd nw eg ne sp = false)) (fun ((kw', bt', lw', vg', lg', k1', k2') : Nat × (Nat → Nat) × (Nat → Nat) × (Nat → Nat) × (Nat → Nat) × Nat × Nat) => [(o, eEPR t0 a1 a2 w0 y0 s0 h0 g0 u0 v0), (w0, eWay wb wl), (wb, eRow bb kw'), (bb, eArr cI 9 bt'), (wl, eRow bl kw'), (bl, eArr cI 9 lw'), (s0, eSnd v1 l1), (v1, eRow va k1'), (va, eArr cI 150 vg'), (l1, eRow la k2'), (la, eArr cI 150 lg'), (a, eCan b1 b2 sp he air sn), (b1, eRow c1 (3 * nc)), (c1, eArr cI 12 cl), (b2, eRow c2 (3 * nw)), (c2, eArr cI 24 wd), (v0, eRow ea (3 * ne)), (ea, eArr cI 27 eg)]) := by
  refine mtI_of (cc := cX6_isAsEarsHeard) (maxL := 3) (ret := (some .boolean)) (by decide) rfl rfl ?_
  intro p e s m below meth c A hx hb hml hr hts hown hlocks hN hA hK hP hD hS ls hl
  have hown : s.vm.findClass RX6 = some m.cls := hown
  have hl : lv_has ls 3 [(0, .ref o), (1, .ref a)] := hl
  obtain ⟨H, hHe⟩ : ∃ H, H = s.heap := ⟨_, rfl⟩
  rw [← hHe] at hP ⊢
  have hS : va_S A s.heap H [] := by rw [hHe]; exact va_S.rf
  have fl62 := hts (.fieldLink RX6 62 "EchoPaysRent" "ears" "LEchoPaysRent$Row;") (by decide +kernel)
  have inX6 : ∀ w ∈ wsX60, w ∈ wsX6_isAsEarsHeard := by decide +kernel
  have fl39 := hts (.fieldLink RX6 39 "EchoPaysRent" "sound" "LEchoPaysRent$Sound;") (by decide +kernel)
  refine lv_iconst (v := (nI 0)) hx hb dX6_isAsEarsHeard_0 (by decide) ?_
  refine lv_istore_n (lv' := [(2, .int (nI 0)), (0, .ref o), (1, .ref a)]) hx hb dX6_isAsEarsHeard_1 rfl hl (by decide) rfl (fun ls hl => ?_)
  have loop2 : ∀ (nn2 : Nat) (i : Nat) (kw' : Nat) (bt' : Nat → Nat) (lw' : Nat → Nat) (vg' : Nat → Nat) (lg' : Nat → Nat) (k1' : Nat) (k2' : Nat), ne - i < nn2 → (i ≤ ne) → (allB (earB cl nc air sn wd nw eg sp) i = true) → ∀ (H : Heap) (locs : List Loc), va_P D vwCl [(o, eEPR t0 a1 a2 w0 y0 s0 h0 g0 u0 v0), (w0, eWay wb wl), (wb, eRow bb kw'), (bb, eArr cI 9 bt'), (wl, eRow bl kw'), (bl, eArr cI 9 lw'), (s0, eSnd v1 l1), (v1, eRow va k1'), (va, eArr cI 150 vg'), (l1, eRow la k2'), (la, eArr cI 150 lg'), (a, eCan b1 b2 sp he air sn), (b1, eRow c1 (3 * nc)), (c1, eArr cI 12 cl), (b2, eRow c2 (3 * nw)), (c2, eArr cI 24 wd), (v0, eRow ea (3 * ne)), (ea, eArr cI 27 eg)] H → va_D A [(o, eEPR t0 a1 a2 w0 y0 s0 h0 g0 u0 v0), (w0, eWay wb wl), (wb, eRow bb kw'), (bb, eArr cI 9 bt'), (wl, eRow bl kw'), (bl, eArr cI 9 lw'), (s0, eSnd v1 l1), (v1, eRow va k1'), (va, eArr cI 150 vg'), (l1, eRow la k2'), (la, eArr cI 150 lg'), (a, eCan b1 b2 sp he air sn), (b1, eRow c1 (3 * nc)), (c1, eArr cI 12 cl), (b2, eRow c2 (3 * nw)), (c2, eArr cI 24 wd), (v0, eRow ea (3 * ne)), (ea, eArr cI 27 eg)] → va_S A s.heap H locs → ∀ ls : Array Slot, lv_has ls 3 [(2, .int (nI (3 * i))), (0, .ref o), (1, .ref a)] → W p l e (headSpec wsX6_isAsEarsHeard ({ frames := 5, cells := 0, slots := 0, locals := 121 })).room s m ([.ref o, .ref a] : List Value).toArray below meth c H locs 0 0 (MQ below (va_Qi (fun (r : Int32) ((kw', bt', lw', vg', lg', k1', k2') : Nat × (Nat → Nat) × (Nat → Nat) × (Nat → Nat) × (Nat → Nat) × Nat × Nat) => (r = (nI 1) ∧ asM cl nc air sn wd nw eg ne sp = true) ∨ (r = (nI 0) ∧ asM cl nc air sn wd nw eg ne sp = false)) (ctB D cI cC (fun ((kw', bt', lw', vg', lg', k1', k2') : Nat × (Nat → Nat) × (Nat → Nat) × (Nat → Nat) × (Nat → Nat) × Nat × Nat) => [(o, eEPR t0 a1 a2 w0 y0 s0 h0 g0 u0 v0), (w0, eWay wb wl), (wb, eRow bb kw'), (bb, eArr cI 9 bt'), (wl, eRow bl kw'), (bl, eArr cI 9 lw'), (s0, eSnd v1 l1), (v1, eRow va k1'), (va, eArr cI 150 vg'), (l1, eRow la k2'), (la, eArr cI 150 lg'), (a, eCan b1 b2 sp he air sn), (b1, eRow c1 (3 * nc)), (c1, eArr cI 12 cl), (b2, eRow c2 (3 * nw)), (c2, eArr cI 24 wd), (v0, eRow ea (3 * ne)), (ea, eArr cI 27 eg)]) A) A) ([.ref o, .ref a] : List Value).toArray s 0 0 A) (F0 m 2 ls []) := by
    intro nn2
    induction nn2 with
    | zero =>
      intro i kw' bt' lw' vg' lg' k1' k2' hm1
      exact absurd hm1 (Nat.not_lt_zero _)
    | succ nn2 ih2 =>
      intro i kw' bt' lw' vg' lg' k1' k2' hm1 hi2 hal H locs hP hD hS ls hl
      refine lv_iload_n hx hb dX6_isAsEarsHeard_2 rfl (lv_at hl 0 rfl) ?_
      refine lv_aload_n hx hb dX6_isAsEarsHeard_3 rfl (lv_at hl 1 rfl) ?_
      refine va_get (D := D) (ci := 6) (v := .ref v0) (C := RX6) (T := TX6) (N := 10) hx hb hts inX6 hown hK hP 0 rfl rfl 9 (by decide) fl62 (fun _ h9 => h9) rfl dX6_isAsEarsHeard_4 ?_
      refine k_V (q := (RX1, TX1, 2)) (ci := 1) (As := []) (wr := [(o, eEPR t0 a1 a2 w0 y0 s0 h0 g0 u0 v0), (w0, eWay wb wl), (wb, eRow bb kw'), (bb, eArr cI 9 bt'), (wl, eRow bl kw'), (bl, eArr cI 9 lw'), (s0, eSnd v1 l1), (v1, eRow va k1'), (va, eArr cI 150 vg'), (l1, eRow la k2'), (la, eArr cI 150 lg'), (a, eCan b1 b2 sp he air sn), (b1, eRow c1 (3 * nc)), (c1, eArr cI 12 cl), (b2, eRow c2 (3 * nw)), (c2, eArr cI 24 wd)]) ⟨hx, hb, hml, hown, hts⟩ (c_X1_size l D cI cC v0 ea 27 eg (3 * ne)) (cwV 0 hts gX6_isAsEarsHeard_X1_size rfl rfl rfl (by decide +kernel) ⟨Nat.le_of_ble_eq_true rfl, Nat.le_of_ble_eq_true rfl⟩) rfl hl.1 rfl (Nat.le_of_ble_eq_true rfl) dX6_isAsEarsHeard_7 ⟨Nat.zero_le _, Nat.zero_le _⟩ hN hK hP hD hS hA rfl (q0 := 16) rfl [16, 17] [0, 1, 2, 3, 4, 5, 6, 7, 8, 9, 10, 11, 12, 13, 14, 15] rfl rfl ⟨rfl, rfl, by decide⟩ (fun r3 u H locs w4 hP hD hS => ?_)
      obtain rfl : r3 = (nI (3 * ne)) := w4
      refine x_icmp_ge (tgt := 70) hx hb dX6_isAsEarsHeard_10 (by decide) (by omega) (by omega) (fun h5 => ?_) (fun h5 => ?_)
      · refine lv_iconst (v := (nI 1)) hx hb dX6_isAsEarsHeard_70 (by decide) ?_
        exact x_iret hx hb hr hlocks dX6_isAsEarsHeard_71 rfl (post := fun (r : Int32) ((kw', bt', lw', vg', lg', k1', k2') : Nat × (Nat → Nat) × (Nat → Nat) × (Nat → Nat) × (Nat → Nat) × Nat × Nat) => (r = (nI 1) ∧ asM cl nc air sn wd nw eg ne sp = true) ∨ (r = (nI 0) ∧ asM cl nc air sn wd nw eg ne sp = false)) (w1 := fun ((kw', bt', lw', vg', lg', k1', k2') : Nat × (Nat → Nat) × (Nat → Nat) × (Nat → Nat) × (Nat → Nat) × Nat × Nat) => [(o, eEPR t0 a1 a2 w0 y0 s0 h0 g0 u0 v0), (w0, eWay wb wl), (wb, eRow bb kw'), (bb, eArr cI 9 bt'), (wl, eRow bl kw'), (bl, eArr cI 9 lw'), (s0, eSnd v1 l1), (v1, eRow va k1'), (va, eArr cI 150 vg'), (l1, eRow la k2'), (la, eArr cI 150 lg'), (a, eCan b1 b2 sp he air sn), (b1, eRow c1 (3 * nc)), (c1, eArr cI 12 cl), (b2, eRow c2 (3 * nw)), (c2, eArr cI 24 wd), (v0, eRow ea (3 * ne)), (ea, eArr cI 27 eg)]) (kw', bt', lw', vg', lg', k1', k2') (Or.inl ⟨rfl, by unfold asM; rw [show ne = i from by omega]; exact hal⟩) hK hP hD hS
      · obtain ⟨ho6a, ho6b, ho6c⟩ := hoe i (by omega)
        have f7 : 2 ^ nw ≤ 256 := pow8 hnn.2
        refine lv_aload_n hx hb dX6_isAsEarsHeard_13 rfl (lv_at hl 1 rfl) ?_
        refine lv_aload_n hx hb dX6_isAsEarsHeard_14 rfl (lv_at hl 2 rfl) ?_
        refine lv_aload_n hx hb dX6_isAsEarsHeard_15 rfl (lv_at hl 1 rfl) ?_
        refine va_get (D := D) (ci := 6) (v := .ref v0) (C := RX6) (T := TX6) (N := 10) hx hb hts inX6 hown hK hP 0 rfl rfl 9 (by decide) fl62 (fun _ h9 => h9) rfl dX6_isAsEarsHeard_16 ?_
        refine lv_iload_n hx hb dX6_isAsEarsHeard_19 rfl (lv_at hl 0 rfl) ?_
        refine lv_iconst (v := (nI 0)) hx hb dX6_isAsEarsHeard_20 (by decide) ?_
        refine x_iadd hx hb dX6_isAsEarsHeard_21 ?_
        refine k_V (q := (RX1, TX1, 2)) (ci := 1) (As := [.int (nI (3 * i + 0))]) (wr := [(o, eEPR t0 a1 a2 w0 y0 s0 h0 g0 u0 v0), (w0, eWay wb wl), (wb, eRow bb kw'), (bb, eArr cI 9 bt'), (wl, eRow bl kw'), (bl, eArr cI 9 lw'), (s0, eSnd v1 l1), (v1, eRow va k1'), (va, eArr cI 150 vg'), (l1, eRow la k2'), (la, eArr cI 150 lg'), (a, eCan b1 b2 sp he air sn), (b1, eRow c1 (3 * nc)), (c1, eArr cI 12 cl), (b2, eRow c2 (3 * nw)), (c2, eArr cI 24 wd)]) ⟨hx, hb, hml, hown, hts⟩ (c_X1_at_lt l D cI cC v0 ea 27 eg (3 * ne) (3 * i + 0) (by omega) (by omega) (by omega)) (cwV 1 hts gX6_isAsEarsHeard_X1_at rfl rfl rfl (by decide +kernel) ⟨Nat.le_of_ble_eq_true rfl, Nat.le_of_ble_eq_true rfl⟩) rfl hl.1 rfl (Nat.le_of_ble_eq_true rfl) dX6_isAsEarsHeard_22 ⟨Nat.zero_le _, Nat.zero_le _⟩ hN hK hP hD hS hA rfl (q0 := 16) rfl [16, 17] [0, 1, 2, 3, 4, 5, 6, 7, 8, 9, 10, 11, 12, 13, 14, 15] rfl rfl ⟨rfl, rfl, by decide⟩ (fun r8 u H locs w9 hP hD hS => ?_)
        obtain rfl : r8 = (nI (eg (3 * i + 0))) := w9
        refine lv_aload_n hx hb dX6_isAsEarsHeard_25 rfl (lv_at hl 2 rfl) ?_
        refine k_V (q := (RX0, TX0, 6)) (ci := 0) (As := []) (wr := [(o, eEPR t0 a1 a2 w0 y0 s0 h0 g0 u0 v0), (w0, eWay wb wl), (wb, eRow bb kw'), (bb, eArr cI 9 bt'), (wl, eRow bl kw'), (bl, eArr cI 9 lw'), (s0, eSnd v1 l1), (v1, eRow va k1'), (va, eArr cI 150 vg'), (l1, eRow la k2'), (la, eArr cI 150 lg'), (b1, eRow c1 (3 * nc)), (c1, eArr cI 12 cl), (v0, eRow ea (3 * ne)), (ea, eArr cI 27 eg)]) ⟨hx, hb, hml, hown, hts⟩ (c_X0_allWords l D cI cC a b1 b2 sp he air sn c2 wd nw (by omega)) (cwV 0 hts gX6_isAsEarsHeard_X0_allWords rfl rfl rfl (by decide +kernel) ⟨Nat.le_of_ble_eq_true rfl, Nat.le_of_ble_eq_true rfl⟩) rfl hl.1 rfl (Nat.le_of_ble_eq_true rfl) dX6_isAsEarsHeard_26 ⟨Nat.zero_le _, Nat.zero_le _⟩ hN hK hP hD hS hA rfl (q0 := 11) rfl [11, 14, 15] [0, 1, 2, 3, 4, 5, 6, 7, 8, 9, 10, 12, 13, 16, 17] rfl rfl ⟨rfl, rfl, by decide⟩ (fun r10 u H locs w11 hP hD hS => ?_)
        obtain rfl : r10 = (nI (2 ^ nw - 1)) := w11
        refine k_Vv (q := (RX6, TX6, 10)) (ci := 6) (As := [.ref a, .int (nI (eg (3 * i + 0))), .int (nI (2 ^ nw - 1))]) (wr := [(v0, eRow ea (3 * ne)), (ea, eArr cI 27 eg)]) ⟨hx, hb, hml, hown, hts⟩ (c_X6_listen l D cI cC o t0 a1 a2 w0 y0 s0 h0 g0 u0 v0 wb bb wl bl v1 va l1 la kw' bt' lw' vg' lg' k1' k2' a b1 c1 b2 c2 cl nc wd nw sp he air sn (eg (3 * i + 0)) (2 ^ nw - 1) (by omega) (by omega) (by omega) hok hokd (by omega) (by omega)) (cwV 3 hts gX6_isAsEarsHeard_X6_listen rfl rfl rfl (by decide +kernel) ⟨Nat.le_of_ble_eq_true rfl, Nat.le_of_ble_eq_true rfl⟩) rfl hl.1 rfl (Nat.le_of_ble_eq_true rfl) dX6_isAsEarsHeard_29 ⟨Nat.zero_le _, Nat.zero_le _⟩ hN hK hP hD hS hA rfl (q0 := 0) rfl [0, 1, 2, 3, 4, 5, 6, 7, 8, 9, 10, 15, 11, 12, 16, 17] [13, 14] rfl rfl ⟨rfl, rfl, by decide⟩ (fun u H locs w15 hP hD hS => ?_)
        obtain ⟨bt'13, lw'14⟩ := u
        have h16 : repW bt'13 lw'14 (waysM cl air sn sp (eg (3 * i + 0)) nc) := w15
        refine lv_aload_n hx hb dX6_isAsEarsHeard_32 rfl (lv_at hl 1 rfl) ?_
        refine va_get (D := D) (ci := 6) (v := .ref s0) (C := RX6) (T := TX6) (N := 10) hx hb hts inX6 hown hK hP 2 rfl rfl 5 (by decide) fl39 (fun _ h9 => h9) rfl dX6_isAsEarsHeard_33 ?_
        refine lv_aload_n hx hb dX6_isAsEarsHeard_36 rfl (lv_at hl 1 rfl) ?_
        refine va_get (D := D) (ci := 6) (v := .ref v0) (C := RX6) (T := TX6) (N := 10) hx hb hts inX6 hown hK hP 2 rfl rfl 9 (by decide) fl62 (fun _ h9 => h9) rfl dX6_isAsEarsHeard_37 ?_
        refine lv_iload_n hx hb dX6_isAsEarsHeard_40 rfl (lv_at hl 0 rfl) ?_
        refine lv_iconst (v := (nI 1)) hx hb dX6_isAsEarsHeard_41 (by decide) ?_
        refine x_iadd hx hb dX6_isAsEarsHeard_42 ?_
        refine k_V (q := (RX1, TX1, 2)) (ci := 1) (As := [.int (nI (3 * i + 1))]) (wr := [(o, eEPR t0 a1 a2 w0 y0 s0 h0 g0 u0 v0), (w0, eWay wb wl), (wb, eRow bb (lenW (waysM cl air sn sp (eg (3 * i + 0)) nc))), (bb, eArr cI 9 bt'13), (wl, eRow bl (lenW (waysM cl air sn sp (eg (3 * i + 0)) nc))), (bl, eArr cI 9 lw'14), (s0, eSnd v1 l1), (v1, eRow va 150), (va, eArr cI 150 ((hearM cl nc air sn wd nw sp (eg (3 * i + 0)) (2 ^ nw - 1)).2)), (l1, eRow la 150), (la, eArr cI 150 ((hearM cl nc air sn wd nw sp (eg (3 * i + 0)) (2 ^ nw - 1)).1)), (a, eCan b1 b2 sp he air sn), (b1, eRow c1 (3 * nc)), (c1, eArr cI 12 cl), (b2, eRow c2 (3 * nw)), (c2, eArr cI 24 wd)]) ⟨hx, hb, hml, hown, hts⟩ (c_X1_at_lt l D cI cC v0 ea 27 eg (3 * ne) (3 * i + 1) (by omega) (by omega) (by omega)) (cwV 1 hts gX6_isAsEarsHeard_X1_at rfl rfl rfl (by decide +kernel) ⟨Nat.le_of_ble_eq_true rfl, Nat.le_of_ble_eq_true rfl⟩) rfl hl.1 rfl (Nat.le_of_ble_eq_true rfl) dX6_isAsEarsHeard_43 ⟨Nat.zero_le _, Nat.zero_le _⟩ hN hK hP hD hS hA rfl (q0 := 0) rfl [0, 1] [2, 3, 4, 5, 6, 7, 8, 9, 10, 11, 12, 13, 14, 15, 16, 17] rfl rfl ⟨rfl, rfl, by decide⟩ (fun r17 u H locs w18 hP hD hS => ?_)
        obtain rfl : r17 = (nI (eg (3 * i + 1))) := w18
        refine k_V (q := (RX3, TX3, 2)) (ci := 3) (As := [.int (nI (eg (3 * i + 1)))]) (wr := [(o, eEPR t0 a1 a2 w0 y0 s0 h0 g0 u0 v0), (w0, eWay wb wl), (wb, eRow bb (lenW (waysM cl air sn sp (eg (3 * i + 0)) nc))), (bb, eArr cI 9 bt'13), (wl, eRow bl (lenW (waysM cl air sn sp (eg (3 * i + 0)) nc))), (bl, eArr cI 9 lw'14), (l1, eRow la 150), (la, eArr cI 150 ((hearM cl nc air sn wd nw sp (eg (3 * i + 0)) (2 ^ nw - 1)).1)), (a, eCan b1 b2 sp he air sn), (b1, eRow c1 (3 * nc)), (c1, eArr cI 12 cl), (b2, eRow c2 (3 * nw)), (c2, eArr cI 24 wd), (v0, eRow ea (3 * ne)), (ea, eArr cI 27 eg)]) ⟨hx, hb, hml, hown, hts⟩ (c_X3_valueAt_lt l D cI cC s0 v1 va l1 ((hearM cl nc air sn wd nw sp (eg (3 * i + 0)) (2 ^ nw - 1)).2) (eg (3 * i + 1)) (by omega)) (cwV 1 hts gX6_isAsEarsHeard_X3_valueAt rfl rfl rfl (by decide +kernel) ⟨Nat.le_of_ble_eq_true rfl, Nat.le_of_ble_eq_true rfl⟩) rfl hl.1 rfl (Nat.le_of_ble_eq_true rfl) dX6_isAsEarsHeard_46 ⟨Nat.zero_le _, Nat.zero_le _⟩ hN hK hP hD hS hA rfl (q0 := 6) rfl [6, 7, 8] [0, 1, 2, 3, 4, 5, 9, 10, 11, 12, 13, 14, 15, 16, 17] rfl rfl ⟨rfl, rfl, by decide⟩ (fun r19 u H locs w20 hP hD hS => ?_)
        obtain rfl : r19 = (nI (((hearM cl nc air sn wd nw sp (eg (3 * i + 0)) (2 ^ nw - 1)).2) (eg (3 * i + 1)))) := w20
        have hsb := okS_play okS_quiet hokd nw (Nat.le_refl nw) (on := onS (2 ^ nw - 1)) (L := waysM cl air sn sp (eg (3 * i + 0)) nc) (d := 0) (eg (3 * i + 1))
        have hsb2 : (hearM cl nc air sn wd nw sp (eg (3 * i + 0)) (2 ^ nw - 1)).2 (eg (3 * i + 1)) < 2147483648 := hsb.2
        refine lv_aload_n hx hb dX6_isAsEarsHeard_49 rfl (lv_at hl 1 rfl) ?_
        refine va_get (D := D) (ci := 6) (v := .ref v0) (C := RX6) (T := TX6) (N := 10) hx hb hts inX6 hown hK hP 0 rfl rfl 9 (by decide) fl62 (fun _ h9 => h9) rfl dX6_isAsEarsHeard_50 ?_
        refine lv_iload_n hx hb dX6_isAsEarsHeard_53 rfl (lv_at hl 0 rfl) ?_
        refine lv_iconst (v := (nI 2)) hx hb dX6_isAsEarsHeard_54 (by decide) ?_
        refine x_iadd hx hb dX6_isAsEarsHeard_55 ?_
        refine k_V (q := (RX1, TX1, 2)) (ci := 1) (As := [.int (nI (3 * i + 2))]) (wr := [(o, eEPR t0 a1 a2 w0 y0 s0 h0 g0 u0 v0), (w0, eWay wb wl), (wb, eRow bb (lenW (waysM cl air sn sp (eg (3 * i + 0)) nc))), (bb, eArr cI 9 bt'13), (wl, eRow bl (lenW (waysM cl air sn sp (eg (3 * i + 0)) nc))), (bl, eArr cI 9 lw'14), (l1, eRow la 150), (la, eArr cI 150 ((hearM cl nc air sn wd nw sp (eg (3 * i + 0)) (2 ^ nw - 1)).1)), (a, eCan b1 b2 sp he air sn), (b1, eRow c1 (3 * nc)), (c1, eArr cI 12 cl), (b2, eRow c2 (3 * nw)), (c2, eArr cI 24 wd), (s0, eSnd v1 l1), (v1, eRow va 150), (va, eArr cI 150 ((hearM cl nc air sn wd nw sp (eg (3 * i + 0)) (2 ^ nw - 1)).2))]) ⟨hx, hb, hml, hown, hts⟩ (c_X1_at_lt l D cI cC v0 ea 27 eg (3 * ne) (3 * i + 2) (by omega) (by omega) (by omega)) (cwV 1 hts gX6_isAsEarsHeard_X1_at rfl rfl rfl (by decide +kernel) ⟨Nat.le_of_ble_eq_true rfl, Nat.le_of_ble_eq_true rfl⟩) rfl hl.1 rfl (Nat.le_of_ble_eq_true rfl) dX6_isAsEarsHeard_56 ⟨Nat.zero_le _, Nat.zero_le _⟩ hN hK hP hD hS hA rfl (q0 := 13) rfl [13, 14] [0, 1, 2, 3, 4, 5, 6, 7, 8, 9, 10, 11, 12, 15, 16, 17] rfl rfl ⟨rfl, rfl, by decide⟩ (fun r21 u H locs w22 hP hD hS => ?_)
        obtain rfl : r21 = (nI (eg (3 * i + 2))) := w22
        refine x_icmp_eq (tgt := 64) hx hb dX6_isAsEarsHeard_59 (by decide) (by omega) (by omega) (fun h23 => ?_) (fun h23 => ?_)
        · refine lv_iinc (v := (nI (3 * i + 3))) (lv' := [(2, .int (nI (3 * i + 3))), (0, .ref o), (1, .ref a)]) hx hb dX6_isAsEarsHeard_64 hl (k := 0) rfl (nI_inc _ 3) (by decide) rfl (fun ls hl => ?_)
          refine lv_goto (tgt := 2) hx hb dX6_isAsEarsHeard_67 (by decide) ?_
          rw [show 3 * i + 3 = 3 * (i + 1) from by omega] at hl
          exact ih2 (i + 1) (lenW (waysM cl air sn sp (eg (3 * i + 0)) nc)) bt'13 lw'14 ((hearM cl nc air sn wd nw sp (eg (3 * i + 0)) (2 ^ nw - 1)).2) ((hearM cl nc air sn wd nw sp (eg (3 * i + 0)) (2 ^ nw - 1)).1) 150 150 (by omega) (by omega) (allB_s hal (decide_eq_true (by assumption))) _ _ (hP.sub [0, 1, 2, 3, 4, 5, 13, 14, 15, 6, 7, 8, 9, 10, 11, 12, 16, 17] rfl) (hD.sub [0, 1, 2, 3, 4, 5, 13, 14, 15, 6, 7, 8, 9, 10, 11, 12, 16, 17] rfl rfl) hS _ (lv_sub hl [0, 1, 2] rfl)
        · refine lv_iconst (v := (nI 0)) hx hb dX6_isAsEarsHeard_62 (by decide) ?_
          exact x_iret hx hb hr hlocks dX6_isAsEarsHeard_63 rfl (post := fun (r : Int32) ((kw', bt', lw', vg', lg', k1', k2') : Nat × (Nat → Nat) × (Nat → Nat) × (Nat → Nat) × (Nat → Nat) × Nat × Nat) => (r = (nI 1) ∧ asM cl nc air sn wd nw eg ne sp = true) ∨ (r = (nI 0) ∧ asM cl nc air sn wd nw eg ne sp = false)) (w1 := fun ((kw', bt', lw', vg', lg', k1', k2') : Nat × (Nat → Nat) × (Nat → Nat) × (Nat → Nat) × (Nat → Nat) × Nat × Nat) => [(o, eEPR t0 a1 a2 w0 y0 s0 h0 g0 u0 v0), (w0, eWay wb wl), (wb, eRow bb kw'), (bb, eArr cI 9 bt'), (wl, eRow bl kw'), (bl, eArr cI 9 lw'), (s0, eSnd v1 l1), (v1, eRow va k1'), (va, eArr cI 150 vg'), (l1, eRow la k2'), (la, eArr cI 150 lg'), (a, eCan b1 b2 sp he air sn), (b1, eRow c1 (3 * nc)), (c1, eArr cI 12 cl), (b2, eRow c2 (3 * nw)), (c2, eArr cI 24 wd), (v0, eRow ea (3 * ne)), (ea, eArr cI 27 eg)]) (lenW (waysM cl air sn sp (eg (3 * i + 0)) nc), bt'13, lw'14, (hearM cl nc air sn wd nw sp (eg (3 * i + 0)) (2 ^ nw - 1)).2, (hearM cl nc air sn wd nw sp (eg (3 * i + 0)) (2 ^ nw - 1)).1, 150, 150) (Or.inr ⟨rfl, allB_f (p := earB cl nc air sn wd nw eg sp) (i := i) (decide_eq_false (by assumption)) (by omega)⟩) hK (hP.sub [0, 1, 2, 3, 4, 5, 13, 14, 15, 6, 7, 8, 9, 10, 11, 12, 16, 17] rfl) (hD.sub [0, 1, 2, 3, 4, 5, 13, 14, 15, 6, 7, 8, 9, 10, 11, 12, 16, 17] rfl rfl) hS
  exact loop2 _ 0 kw bt lw vg lg k1 k2 (Nat.lt_succ_self _) (by omega) rfl _ _ (hP.sub [0, 1, 2, 3, 4, 5, 6, 7, 8, 9, 10, 11, 12, 13, 14, 15, 16, 17] rfl) (hD.sub [0, 1, 2, 3, 4, 5, 6, 7, 8, 9, 10, 11, 12, 13, 14, 15, 16, 17] rfl rfl) hS _ (lv_sub hl [0, 1, 2] rfl)
