/-! Reading a text. -/
def byM (tx : Nat → Nat) (len p : Nat) : Nat := if p < len then tx p else 0
theorem byM_lt {tx : Nat → Nat} {len p : Nat} (h : p < len) : byM tx len p = tx p := if_pos h
theorem byM_ge {tx : Nat → Nat} {len p : Nat} (h : len ≤ p) : byM tx len p = 0 := if_neg (by omega)
def okB (tx : Nat → Nat) (len : Nat) : Prop := ∀ p, byM tx len p ≤ 255
def figB (b : Nat) : Bool := decide (48 ≤ b ∧ b ≤ 57)
theorem figB_t {b : Nat} (h1 : 48 ≤ b) (h2 : b ≤ 57) : figB b = true := decide_eq_true ⟨h1, h2⟩
theorem figB_f {b : Nat} (h : b < 48 ∨ 57 < b) : figB b = false := decide_eq_false (by omega)
theorem figB_1 {b : Nat} (h : figB b = true) : 48 ≤ b ∧ b ≤ 57 := of_decide_eq_true h
def numM (B : Nat → Nat) (p sep : Nat) : Option (Nat × Nat) :=
  if figB (B p) then
    if figB (B (p + 1)) then (if B (p + 2) = sep then some (10 * (B p - 48) + B (p + 1) - 48, p + 3) else none)
    else (if B (p + 1) = sep then some (B p - 48, p + 2) else none)
  else none
def numsM (B : Nat → Nat) : Nat → Nat → List Nat → Option (List Nat × Nat)
  | 0, p, acc => some (acc, p)
  | k + 1, p, acc => match numM B p (if k = 0 then 59 else 44) with
    | none => none
    | some (v, p') => numsM B k p' (acc ++ [v])
abbrev Dr : Type := (Nat → Nat) × Nat × (Nat → Nat) × Nat × Nat × Nat × Nat
def acceptM (letter x y z : Nat) (d : Dr) : Option Dr :=
  match d with
  | (cl, nc, wd, nw, sp, he, air) =>
    if letter = 102 then (if x ≤ 40 ∧ y ≤ 9 ∧ z ≤ 3 ∧ nc < 4 then some (add3 cl (3 * nc) x y z, nc + 1, wd, nw, sp, he, air) else none)
    else if letter = 119 then (if x ≤ 30 ∧ 1 ≤ y ∧ y ≤ 7 ∧ 1 ≤ z ∧ z ≤ 60 ∧ nw < 8 then some (cl, nc, add3 wd (3 * nw) x y z, nw + 1, sp, he, air) else none)
    else if letter = 115 then (if x ≤ 40 then some (cl, nc, wd, nw, x, he, air) else none)
    else if letter = 104 then (if x ≤ 40 then some (cl, nc, wd, nw, sp, x, air) else none)
    else if letter = 97 then (if 1 ≤ x ∧ x ≤ 9 then some (cl, nc, wd, nw, sp, he, x) else none)
    else none
def itemM (B : Nat → Nat) (p : Nat) (d : Dr) : Option (Dr × Nat) :=
  match numsM B (if B p = 102 ∨ B p = 119 then 3 else 1) (p + 1) [] with
  | none => none
  | some (ns, p') => (acceptM (B p) (ns.getD 0 0) (ns.getD 1 0) (ns.getD 2 0) d).map (fun d' => (d', p'))
def readM (B : Nat → Nat) (len : Nat) : Nat → Nat → Dr → Nat ⊕ Dr
  | 0, _, d => .inr d
  | k + 1, p, d => if p < len then (match itemM B p d with
    | none => .inl p
    | some (d', p') => readM B len k p' d') else .inr d
def dr0 (cl wd : Nat → Nat) : Dr := (cl, 0, wd, 0, 0, 10, 1)
theorem sw5_def {a b c d e f : Int} {n : Nat} (hn : n < 2147483648) (h : n ≠ 97 ∧ n ≠ 102 ∧ n ≠ 104 ∧ n ≠ 115 ∧ n ≠ 119) : Op.lookupswitch.offset [(97, a), (102, b), (104, c), (115, d), (119, e)] f (nI n).toInt = f := by
  rw [nI_toInt (by omega)]
  rw [Op.lookupswitch.offset_cons, if_neg (by omega), Op.lookupswitch.offset_cons, if_neg (by omega), Op.lookupswitch.offset_cons, if_neg (by omega), Op.lookupswitch.offset_cons, if_neg (by omega), Op.lookupswitch.offset_cons, if_neg (by omega)]
  rfl
theorem numM_no {B : Nat → Nat} {p sep : Nat} (h : figB (B p) = false) : numM B p sep = none := by
  unfold numM; rw [h]; rfl
theorem numM_1 {B : Nat → Nat} {p sep : Nat} (h : figB (B p) = true) (h2 : figB (B (p + 1)) = false) : numM B p sep = if B (p + 1) = sep then some (B p - 48, p + 2) else none := by
  unfold numM; rw [h, h2]; rfl
theorem numM_2 {B : Nat → Nat} {p sep : Nat} (h : figB (B p) = true) (h2 : figB (B (p + 1)) = true) : numM B p sep = if B (p + 2) = sep then some (10 * (B p - 48) + B (p + 1) - 48, p + 3) else none := by
  unfold numM; rw [h, h2]; rfl
theorem numsM_none {B : Nat → Nat} {k p : Nat} {acc : List Nat} (h : numM B p (if k = 0 then 59 else 44) = none) : numsM B (k + 1) p acc = none := by
  show (match numM B p (if k = 0 then 59 else 44) with | none => none | some (v, p') => numsM B k p' (acc ++ [v])) = none
  rw [h]
theorem numsM_some {B : Nat → Nat} {k p v p' : Nat} {acc : List Nat} (h : numM B p (if k = 0 then 59 else 44) = some (v, p')) : numsM B (k + 1) p acc = numsM B k p' (acc ++ [v]) := by
  show (match numM B p (if k = 0 then 59 else 44) with | none => none | some (v, p') => numsM B k p' (acc ++ [v])) = _
  rw [h]

set_option maxRecDepth 100000 in
set_option maxHeartbeats 4000000 in
theorem c_X1_at_by (l : Launch) (D : va_G) (cI cC : ClassId) (q : Nat) (qa : Nat) (n : Nat) (g : Nat → Nat) (k : Nat) (i : Nat) (hk : k ≤ n) (hn : n < 2147483648) (hi2 : i < 2147483648) : mtI l D cI cC yX1_at wsX1_at ({ frames := 0, cells := 0, slots := 0, locals := 0 }) [.ref q, .int (nI i)] [(q, eRow qa k), (qa, eArr cI n g)] (fun (r : Int32) (_ : Unit) => r = (nI (byM g k i))) (fun (_ : Unit) => [(q, eRow qa k), (qa, eArr cI n g)]) := by
  refine mtI_of (cc := cX1_at) (maxL := 2) (ret := (some .int)) (by decide) rfl rfl ?_
  intro p e s m below meth c A hx hb hml hr hts hown hlocks hN hA hK hP hD hS ls hl
  have hown : s.vm.findClass RX1 = some m.cls := hown
  have hl : lv_has ls 2 [(0, .ref q), (1, .int (nI i))] := hl
  obtain ⟨H, hHe⟩ : ∃ H, H = s.heap := ⟨_, rfl⟩
  rw [← hHe] at hP ⊢
  have hS : va_S A s.heap H [] := by rw [hHe]; exact va_S.rf
  have fl21 := hts (.fieldLink RX1 21 "EchoPaysRent$Row" "size" "I") (by decide +kernel)
  have inX1 : ∀ w ∈ wsX10, w ∈ wsX1_at := by decide +kernel
  have fl15 := hts (.fieldLink RX1 15 "EchoPaysRent$Row" "cells" "[I") (by decide +kernel)
  rcases (show (i < k) ∨ (k ≤ i) from by omega) with hs1 | hs1
  · refine lv_iload_n hx hb dX1_at_0 rfl (lv_at hl 1 rfl) ?_
    refine x_if_lt (tgt := 30) hx hb dX1_at_1 (by decide) (by omega) (fun h2 => False.elim (by omega)) (fun h2 => ?_)
    refine lv_iload_n hx hb dX1_at_4 rfl (lv_at hl 1 rfl) ?_
    refine lv_aload_n hx hb dX1_at_5 rfl (lv_at hl 0 rfl) ?_
    refine va_get (D := D) (ci := 1) (v := .int (nI k)) (C := RX1) (T := TX1) (N := 2) hx hb hts inX1 hown hK hP 0 rfl rfl 1 (by decide) fl21 (fun _ h9 => h9) rfl dX1_at_6 ?_
    refine x_icmp_ge (tgt := 30) hx hb dX1_at_9 (by decide) (by omega) (by omega) (fun h3 => False.elim (by omega)) (fun h3 => ?_)
    refine lv_iload_n hx hb dX1_at_12 rfl (lv_at hl 1 rfl) ?_
    refine lv_aload_n hx hb dX1_at_13 rfl (lv_at hl 0 rfl) ?_
    refine va_get (D := D) (ci := 1) (v := .ref qa) (C := RX1) (T := TX1) (N := 2) hx hb hts inX1 hown hK hP 0 rfl rfl 0 (by decide) fl15 (fun _ h9 => h9) rfl dX1_at_14 ?_
    refine va_alen hx hb hK hP 1 0 rfl rfl (v := (nI n)) rfl dX1_at_17 ?_
    refine x_icmp_ge (tgt := 30) hx hb dX1_at_18 (by decide) (by omega) (by omega) (fun h4 => False.elim (by omega)) (fun h4 => ?_)
    refine lv_aload_n hx hb dX1_at_21 rfl (lv_at hl 0 rfl) ?_
    refine va_get (D := D) (ci := 1) (v := .ref qa) (C := RX1) (T := TX1) (N := 2) hx hb hts inX1 hown hK hP 0 rfl rfl 0 (by decide) fl15 (fun _ h9 => h9) rfl dX1_at_22 ?_
    refine lv_iload_n hx hb dX1_at_25 rfl (lv_at hl 1 rfl) ?_
    refine x_iald (A := A) hx hb hK hP 1 0 rfl rfl dX1_at_26 (by omega) (by omega) ?_
    refine lv_goto (tgt := 31) hx hb dX1_at_27 (by decide) ?_
    exact x_iret hx hb hr hlocks dX1_at_31 rfl (post := fun (r : Int32) (_ : Unit) => r = (nI (byM g k i))) (w1 := fun (_ : Unit) => [(q, eRow qa k), (qa, eArr cI n g)]) () (by rw [byM_lt (by omega)]) hK hP hD hS
  · refine lv_iload_n hx hb dX1_at_0 rfl (lv_at hl 1 rfl) ?_
    refine x_if_lt (tgt := 30) hx hb dX1_at_1 (by decide) (by omega) (fun h5 => False.elim (by omega)) (fun h5 => ?_)
    refine lv_iload_n hx hb dX1_at_4 rfl (lv_at hl 1 rfl) ?_
    refine lv_aload_n hx hb dX1_at_5 rfl (lv_at hl 0 rfl) ?_
    refine va_get (D := D) (ci := 1) (v := .int (nI k)) (C := RX1) (T := TX1) (N := 2) hx hb hts inX1 hown hK hP 0 rfl rfl 1 (by decide) fl21 (fun _ h9 => h9) rfl dX1_at_6 ?_
    refine x_icmp_ge (tgt := 30) hx hb dX1_at_9 (by decide) (by omega) (by omega) (fun h6 => ?_) (fun h6 => False.elim (by omega))
    refine lv_iconst (v := (nI 0)) hx hb dX1_at_30 (by decide) ?_
    exact x_iret hx hb hr hlocks dX1_at_31 rfl (post := fun (r : Int32) (_ : Unit) => r = (nI (byM g k i))) (w1 := fun (_ : Unit) => [(q, eRow qa k), (qa, eArr cI n g)]) () (by rw [byM_ge (by omega)]) hK hP hD hS

set_option maxRecDepth 100000 in
set_option maxHeartbeats 4000000 in
theorem c_X4_length (l : Launch) (D : va_G) (cI cC : ClassId) (t0 : Nat) (tb : Nat) (tba : Nat) (tn : Nat) (tx : Nat → Nat) (len : Nat) : mtI l D cI cC yX4_length wsX4_length ({ frames := 1, cells := 0, slots := 0, locals := 20 }) [.ref t0] [(t0, eTxt tb tn), (tb, eRow tba len), (tba, eArr cI 300 tx)] (fun (r : Int32) (_ : Unit) => r = (nI len)) (fun (_ : Unit) => [(t0, eTxt tb tn), (tb, eRow tba len), (tba, eArr cI 300 tx)]) := by
  refine mtI_of (cc := cX4_length) (maxL := 1) (ret := (some .int)) (by decide) rfl rfl ?_
  intro p e s m below meth c A hx hb hml hr hts hown hlocks hN hA hK hP hD hS ls hl
  have hown : s.vm.findClass RX4 = some m.cls := hown
  have hl : lv_has ls 1 [(0, .ref t0)] := hl
  obtain ⟨H, hHe⟩ : ∃ H, H = s.heap := ⟨_, rfl⟩
  rw [← hHe] at hP ⊢
  have hS : va_S A s.heap H [] := by rw [hHe]; exact va_S.rf
  have fl14 := hts (.fieldLink RX4 14 "EchoPaysRent$Text" "bytes" "LEchoPaysRent$Row;") (by decide +kernel)
  have inX4 : ∀ w ∈ wsX40, w ∈ wsX4_length := by decide +kernel
  refine lv_aload_n hx hb dX4_length_0 rfl (lv_at hl 0 rfl) ?_
  refine va_get (D := D) (ci := 4) (v := .ref tb) (C := RX4) (T := TX4) (N := 2) hx hb hts inX4 hown hK hP 0 rfl rfl 0 (by decide) fl14 (fun _ h9 => h9) rfl dX4_length_1 ?_
  refine k_V (q := (RX1, TX1, 2)) (ci := 1) (As := []) (wr := [(t0, eTxt tb tn)]) ⟨hx, hb, hml, hown, hts⟩ (c_X1_size l D cI cC tb tba 300 tx len) (cwV 0 hts gX4_length_X1_size rfl rfl rfl (by decide +kernel) ⟨Nat.le_of_ble_eq_true rfl, Nat.le_of_ble_eq_true rfl⟩) rfl hl.1 rfl (Nat.le_of_ble_eq_true rfl) dX4_length_4 ⟨Nat.zero_le _, Nat.zero_le _⟩ hN hK hP hD hS hA rfl (q0 := 1) rfl [1, 2] [0] rfl rfl ⟨rfl, rfl, by decide⟩ (fun r1 u H locs w2 hP hD hS => ?_)
  obtain rfl : r1 = (nI len) := w2
  exact x_iret hx hb hr hlocks dX4_length_7 rfl (post := fun (r : Int32) (_ : Unit) => r = (nI len)) (w1 := fun (_ : Unit) => [(t0, eTxt tb tn), (tb, eRow tba len), (tba, eArr cI 300 tx)]) () rfl hK hP hD hS

set_option maxRecDepth 100000 in
set_option maxHeartbeats 4000000 in
theorem c_X4_drop (l : Launch) (D : va_G) (cI cC : ClassId) (t0 : Nat) (tb : Nat) (tba : Nat) (tn : Nat) (tx : Nat → Nat) (len : Nat) : mtV l D cI cC yX4_drop wsX4_drop ({ frames := 1, cells := 0, slots := 0, locals := 20 }) [.ref t0] [(t0, eTxt tb tn), (tb, eRow tba len), (tba, eArr cI 300 tx)] (fun (_ : Unit) => True) (fun (_ : Unit) => [(t0, eTxt tb tn), (tb, eRow tba 0), (tba, eArr cI 300 tx)]) := by
  refine mtV_of (cc := cX4_drop) (maxL := 1) (ret := none) (by decide) rfl rfl ?_
  intro p e s m below meth c A hx hb hml hr hts hown hlocks hN hA hK hP hD hS ls hl
  have hown : s.vm.findClass RX4 = some m.cls := hown
  have hl : lv_has ls 1 [(0, .ref t0)] := hl
  obtain ⟨H, hHe⟩ : ∃ H, H = s.heap := ⟨_, rfl⟩
  rw [← hHe] at hP ⊢
  have hS : va_S A s.heap H [] := by rw [hHe]; exact va_S.rf
  have fl14 := hts (.fieldLink RX4 14 "EchoPaysRent$Text" "bytes" "LEchoPaysRent$Row;") (by decide +kernel)
  have inX4 : ∀ w ∈ wsX40, w ∈ wsX4_drop := by decide +kernel
  refine lv_aload_n hx hb dX4_drop_0 rfl (lv_at hl 0 rfl) ?_
  refine va_get (D := D) (ci := 4) (v := .ref tb) (C := RX4) (T := TX4) (N := 2) hx hb hts inX4 hown hK hP 0 rfl rfl 0 (by decide) fl14 (fun _ h9 => h9) rfl dX4_drop_1 ?_
  refine k_Vv (q := (RX1, TX1, 2)) (ci := 1) (As := []) (wr := [(t0, eTxt tb tn)]) ⟨hx, hb, hml, hown, hts⟩ (c_X1_drop l D cI cC tb tba 300 tx len) (cwV 0 hts gX4_drop_X1_drop rfl rfl rfl (by decide +kernel) ⟨Nat.le_of_ble_eq_true rfl, Nat.le_of_ble_eq_true rfl⟩) rfl hl.1 rfl (Nat.le_of_ble_eq_true rfl) dX4_drop_4 ⟨Nat.zero_le _, Nat.zero_le _⟩ hN hK hP hD hS hA rfl (q0 := 1) rfl [1, 2] [0] rfl rfl ⟨rfl, rfl, by decide⟩ (fun u H locs w2 hP hD hS => ?_)
  exact x_vret hx hb hr hlocks dX4_drop_7 (post := fun (_ : Unit) => True) (w1 := fun (_ : Unit) => [(t0, eTxt tb tn), (tb, eRow tba 0), (tba, eArr cI 300 tx)]) () trivial hK hP hD hS

set_option maxRecDepth 100000 in
set_option maxHeartbeats 4000000 in
theorem c_X4_isFigure (l : Launch) (D : va_G) (cI cC : ClassId) (t0 : Nat) (tb : Nat) (tba : Nat) (tn : Nat) (tx : Nat → Nat) (len : Nat) (hlen : len ≤ 300) (p0 : Nat) (hp : p0 < 1000) (hB : okB tx len) : mtI l D cI cC yX4_isFigure wsX4_isFigure ({ frames := 1, cells := 0, slots := 0, locals := 22 }) [.ref t0, .int (nI p0)] [(t0, eTxt tb tn), (tb, eRow tba len), (tba, eArr cI 300 tx)] (fun (r : Int32) (_ : Unit) => (r = (nI 1) ∧ figB (byM tx len p0) = true) ∨ (r = (nI 0) ∧ figB (byM tx len p0) = false)) (fun (_ : Unit) => [(t0, eTxt tb tn), (tb, eRow tba len), (tba, eArr cI 300 tx)]) := by
  refine mtI_of (cc := cX4_isFigure) (maxL := 2) (ret := (some .boolean)) (by decide) rfl rfl ?_
  intro p e s m below meth c A hx hb hml hr hts hown hlocks hN hA hK hP hD hS ls hl
  have hown : s.vm.findClass RX4 = some m.cls := hown
  have hl : lv_has ls 2 [(0, .ref t0), (1, .int (nI p0))] := hl
  obtain ⟨H, hHe⟩ : ∃ H, H = s.heap := ⟨_, rfl⟩
  rw [← hHe] at hP ⊢
  have hS : va_S A s.heap H [] := by rw [hHe]; exact va_S.rf
  have fl14 := hts (.fieldLink RX4 14 "EchoPaysRent$Text" "bytes" "LEchoPaysRent$Row;") (by decide +kernel)
  have inX4 : ∀ w ∈ wsX40, w ∈ wsX4_isFigure := by decide +kernel
  refine lv_aload_n hx hb dX4_isFigure_0 rfl (lv_at hl 0 rfl) ?_
  refine va_get (D := D) (ci := 4) (v := .ref tb) (C := RX4) (T := TX4) (N := 2) hx hb hts inX4 hown hK hP 0 rfl rfl 0 (by decide) fl14 (fun _ h9 => h9) rfl dX4_isFigure_1 ?_
  refine lv_iload_n hx hb dX4_isFigure_4 rfl (lv_at hl 1 rfl) ?_
  have hb5 := hB p0
  refine k_V (q := (RX1, TX1, 2)) (ci := 1) (As := [.int (nI p0)]) (wr := [(t0, eTxt tb tn)]) ⟨hx, hb, hml, hown, hts⟩ (c_X1_at_by l D cI cC tb tba 300 tx len p0 (by omega) (by omega) (by omega)) (cwV 1 hts gX4_isFigure_X1_at rfl rfl rfl (by decide +kernel) ⟨Nat.le_of_ble_eq_true rfl, Nat.le_of_ble_eq_true rfl⟩) rfl hl.1 rfl (Nat.le_of_ble_eq_true rfl) dX4_isFigure_5 ⟨Nat.zero_le _, Nat.zero_le _⟩ hN hK hP hD hS hA rfl (q0 := 1) rfl [1, 2] [0] rfl rfl ⟨rfl, rfl, by decide⟩ (fun r1 u H locs w2 hP hD hS => ?_)
  obtain rfl : r1 = (nI (byM tx len p0)) := w2
  refine lv_bipush (v := (nI 48)) hx hb dX4_isFigure_8 (by decide) ?_
  refine lv_bipush (v := (nI 57)) hx hb dX4_isFigure_10 (by decide) ?_
  refine k_SN (As := [.int (iI (((byM tx len p0 : Nat) : Int))), .int (iI (((48 : Nat) : Int))), .int (iI (((57 : Nat) : Int)))]) (wr := [(t0, eTxt tb tn), (tb, eRow tba len), (tba, eArr cI 300 tx)]) ⟨hx, hb, hml, hown, hts⟩ (c_X6_within l D cI cC (((byM tx len p0 : Nat) : Int)) (((48 : Nat) : Int)) (((57 : Nat) : Int)) (by omega) (by omega) (by omega)) ⟨va_cnB 3 hts gX4_isFigure_X6_within_n60 rfl rfl rfl (nzP_get hN (List.mem_of_getElem? (i := 10) rfl)) (hts (.initialized RX6) (by decide +kernel)) (by decide +kernel) ⟨Nat.le_of_ble_eq_true rfl, Nat.le_of_ble_eq_true rfl⟩, hts (.static yX6_within) (by decide +kernel), trivial⟩ rfl hl.1 (by simp only [nI_iI]; rfl) (Nat.le_of_ble_eq_true rfl) dX4_isFigure_12 ⟨Nat.zero_le _, Nat.zero_le _⟩ hN hK hP hD hS hA [] [0, 1, 2] rfl rfl ⟨rfl, rfl, by decide⟩ (fun r3 u H locs w4 hP hD hS => ?_)
  obtain ⟨rfl, h5, h6⟩ | ⟨rfl, h7⟩ : (r3 = (nI 1) ∧ (((48 : Nat) : Int)) ≤ (((byM tx len p0 : Nat) : Int)) ∧ (((byM tx len p0 : Nat) : Int)) ≤ (((57 : Nat) : Int))) ∨ (r3 = (nI 0) ∧ ((((byM tx len p0 : Nat) : Int)) < (((48 : Nat) : Int)) ∨ (((57 : Nat) : Int)) < (((byM tx len p0 : Nat) : Int)))) := w4
  · exact x_iret hx hb hr hlocks dX4_isFigure_15 rfl (post := fun (r : Int32) (_ : Unit) => (r = (nI 1) ∧ figB (byM tx len p0) = true) ∨ (r = (nI 0) ∧ figB (byM tx len p0) = false)) (w1 := fun (_ : Unit) => [(t0, eTxt tb tn), (tb, eRow tba len), (tba, eArr cI 300 tx)]) () (Or.inl ⟨rfl, figB_t (by omega) (by omega)⟩) hK hP hD hS
  · exact x_iret hx hb hr hlocks dX4_isFigure_15 rfl (post := fun (r : Int32) (_ : Unit) => (r = (nI 1) ∧ figB (byM tx len p0) = true) ∨ (r = (nI 0) ∧ figB (byM tx len p0) = false)) (w1 := fun (_ : Unit) => [(t0, eTxt tb tn), (tb, eRow tba len), (tba, eArr cI 300 tx)]) () (Or.inr ⟨rfl, figB_f (by omega)⟩) hK hP hD hS

set_option maxRecDepth 100000 in
set_option maxHeartbeats 4000000 in
theorem c_X4_figuresAt (l : Launch) (D : va_G) (cI cC : ClassId) (t0 : Nat) (tb : Nat) (tba : Nat) (tn : Nat) (tx : Nat → Nat) (len : Nat) (hlen : len ≤ 300) (p0 : Nat) (hp : p0 < 900) (hB : okB tx len) : mtI l D cI cC yX4_figuresAt wsX4_figuresAt ({ frames := 2, cells := 0, slots := 0, locals := 43 }) [.ref t0, .int (nI p0)] [(t0, eTxt tb tn), (tb, eRow tba len), (tba, eArr cI 300 tx)] (fun (r : Int32) (_ : Unit) => (r = (nI 0) ∧ figB (byM tx len p0) = false) ∨ (r = (nI 1) ∧ figB (byM tx len p0) = true ∧ figB (byM tx len (p0 + 1)) = false) ∨ (r = (nI 2) ∧ figB (byM tx len p0) = true ∧ figB (byM tx len (p0 + 1)) = true)) (fun (_ : Unit) => [(t0, eTxt tb tn), (tb, eRow tba len), (tba, eArr cI 300 tx)]) := by
  refine mtI_of (cc := cX4_figuresAt) (maxL := 2) (ret := (some .int)) (by decide) rfl rfl ?_
  intro p e s m below meth c A hx hb hml hr hts hown hlocks hN hA hK hP hD hS ls hl
  have hown : s.vm.findClass RX4 = some m.cls := hown
  have hl : lv_has ls 2 [(0, .ref t0), (1, .int (nI p0))] := hl
  obtain ⟨H, hHe⟩ : ∃ H, H = s.heap := ⟨_, rfl⟩
  rw [← hHe] at hP ⊢
  have hS : va_S A s.heap H [] := by rw [hHe]; exact va_S.rf
  refine lv_aload_n hx hb dX4_figuresAt_0 rfl (lv_at hl 0 rfl) ?_
  refine lv_iload_n hx hb dX4_figuresAt_1 rfl (lv_at hl 1 rfl) ?_
  refine k_V (q := (RX4, TX4, 2)) (ci := 4) (As := [.int (nI p0)]) (wr := []) ⟨hx, hb, hml, hown, hts⟩ (c_X4_isFigure l D cI cC t0 tb tba tn tx len (by omega) p0 (by omega) hB) (cwV 1 hts gX4_figuresAt_X4_isFigure rfl rfl rfl (by decide +kernel) ⟨Nat.le_of_ble_eq_true rfl, Nat.le_of_ble_eq_true rfl⟩) rfl hl.1 rfl (Nat.le_of_ble_eq_true rfl) dX4_figuresAt_2 ⟨Nat.zero_le _, Nat.zero_le _⟩ hN hK hP hD hS hA rfl (q0 := 0) rfl [0, 1, 2] [] rfl rfl ⟨rfl, rfl, by decide⟩ (fun r1 u H locs w2 hP hD hS => ?_)
  obtain ⟨rfl, h3⟩ | ⟨rfl, h4⟩ : (r1 = (nI 1) ∧ figB (byM tx len p0) = true) ∨ (r1 = (nI 0) ∧ figB (byM tx len p0) = false) := w2
  · refine x_if_ne (tgt := 10) hx hb dX4_figuresAt_5 (by decide) (by omega) (fun h5 => ?_) (fun h5 => False.elim (by omega))
    refine lv_aload_n hx hb dX4_figuresAt_10 rfl (lv_at hl 0 rfl) ?_
    refine lv_iload_n hx hb dX4_figuresAt_11 rfl (lv_at hl 1 rfl) ?_
    refine lv_iconst (v := (nI 1)) hx hb dX4_figuresAt_12 (by decide) ?_
    refine x_iadd hx hb dX4_figuresAt_13 ?_
    refine k_V (q := (RX4, TX4, 2)) (ci := 4) (As := [.int (nI (p0 + 1))]) (wr := []) ⟨hx, hb, hml, hown, hts⟩ (c_X4_isFigure l D cI cC t0 tb tba tn tx len (by omega) (p0 + 1) (by omega) hB) (cwV 1 hts gX4_figuresAt_X4_isFigure rfl rfl rfl (by decide +kernel) ⟨Nat.le_of_ble_eq_true rfl, Nat.le_of_ble_eq_true rfl⟩) rfl hl.1 rfl (Nat.le_of_ble_eq_true rfl) dX4_figuresAt_14 ⟨Nat.zero_le _, Nat.zero_le _⟩ hN hK hP hD hS hA rfl (q0 := 0) rfl [0, 1, 2] [] rfl rfl ⟨rfl, rfl, by decide⟩ (fun r6 u H locs w7 hP hD hS => ?_)
    obtain ⟨rfl, h8⟩ | ⟨rfl, h9⟩ : (r6 = (nI 1) ∧ figB (byM tx len (p0 + 1)) = true) ∨ (r6 = (nI 0) ∧ figB (byM tx len (p0 + 1)) = false) := w7
    · refine x_if_eq (tgt := 24) hx hb dX4_figuresAt_17 (by decide) (by omega) (fun h10 => False.elim (by omega)) (fun h10 => ?_)
      refine lv_iconst (v := (nI 2)) hx hb dX4_figuresAt_20 (by decide) ?_
      refine lv_goto (tgt := 25) hx hb dX4_figuresAt_21 (by decide) ?_
      exact x_iret hx hb hr hlocks dX4_figuresAt_25 rfl (post := fun (r : Int32) (_ : Unit) => (r = (nI 0) ∧ figB (byM tx len p0) = false) ∨ (r = (nI 1) ∧ figB (byM tx len p0) = true ∧ figB (byM tx len (p0 + 1)) = false) ∨ (r = (nI 2) ∧ figB (byM tx len p0) = true ∧ figB (byM tx len (p0 + 1)) = true)) (w1 := fun (_ : Unit) => [(t0, eTxt tb tn), (tb, eRow tba len), (tba, eArr cI 300 tx)]) () (Or.inr (Or.inr ⟨rfl, h3, h8⟩)) hK hP hD hS
    · refine x_if_eq (tgt := 24) hx hb dX4_figuresAt_17 (by decide) (by omega) (fun h11 => ?_) (fun h11 => False.elim (by omega))
      refine lv_iconst (v := (nI 1)) hx hb dX4_figuresAt_24 (by decide) ?_
      exact x_iret hx hb hr hlocks dX4_figuresAt_25 rfl (post := fun (r : Int32) (_ : Unit) => (r = (nI 0) ∧ figB (byM tx len p0) = false) ∨ (r = (nI 1) ∧ figB (byM tx len p0) = true ∧ figB (byM tx len (p0 + 1)) = false) ∨ (r = (nI 2) ∧ figB (byM tx len p0) = true ∧ figB (byM tx len (p0 + 1)) = true)) (w1 := fun (_ : Unit) => [(t0, eTxt tb tn), (tb, eRow tba len), (tba, eArr cI 300 tx)]) () (Or.inr (Or.inl ⟨rfl, h3, h9⟩)) hK hP hD hS
  · refine x_if_ne (tgt := 10) hx hb dX4_figuresAt_5 (by decide) (by omega) (fun h12 => False.elim (by omega)) (fun h12 => ?_)
    refine lv_iconst (v := (nI 0)) hx hb dX4_figuresAt_8 (by decide) ?_
    exact x_iret hx hb hr hlocks dX4_figuresAt_9 rfl (post := fun (r : Int32) (_ : Unit) => (r = (nI 0) ∧ figB (byM tx len p0) = false) ∨ (r = (nI 1) ∧ figB (byM tx len p0) = true ∧ figB (byM tx len (p0 + 1)) = false) ∨ (r = (nI 2) ∧ figB (byM tx len p0) = true ∧ figB (byM tx len (p0 + 1)) = true)) (w1 := fun (_ : Unit) => [(t0, eTxt tb tn), (tb, eRow tba len), (tba, eArr cI 300 tx)]) () (Or.inl ⟨rfl, h4⟩) hK hP hD hS

set_option maxRecDepth 100000 in
set_option maxHeartbeats 4000000 in
theorem c_X4_numberAt_one (l : Launch) (D : va_G) (cI cC : ClassId) (t0 : Nat) (tb : Nat) (tba : Nat) (tn : Nat) (tx : Nat → Nat) (len : Nat) (hlen : len ≤ 300) (p0 : Nat) (hp : p0 < 900) (hB : okB tx len) (hf1 : 48 ≤ byM tx len p0 ∧ byM tx len p0 ≤ 57) : mtI l D cI cC yX4_numberAt wsX4_numberAt ({ frames := 1, cells := 0, slots := 0, locals := 21 }) [.ref t0, .int (nI p0), .int (nI 1)] [(t0, eTxt tb tn), (tb, eRow tba len), (tba, eArr cI 300 tx)] (fun (r : Int32) (_ : Unit) => r = (nI (byM tx len p0 - 48))) (fun (_ : Unit) => [(t0, eTxt tb tn), (tb, eRow tba len), (tba, eArr cI 300 tx)]) := by
  refine mtI_of (cc := cX4_numberAt) (maxL := 4) (ret := (some .int)) (by decide) rfl rfl ?_
  intro p e s m below meth c A hx hb hml hr hts hown hlocks hN hA hK hP hD hS ls hl
  have hown : s.vm.findClass RX4 = some m.cls := hown
  have hl : lv_has ls 4 [(0, .ref t0), (1, .int (nI p0)), (2, .int (nI 1))] := hl
  obtain ⟨H, hHe⟩ : ∃ H, H = s.heap := ⟨_, rfl⟩
  rw [← hHe] at hP ⊢
  have hS : va_S A s.heap H [] := by rw [hHe]; exact va_S.rf
  have fl14 := hts (.fieldLink RX4 14 "EchoPaysRent$Text" "bytes" "LEchoPaysRent$Row;") (by decide +kernel)
  have inX4 : ∀ w ∈ wsX40, w ∈ wsX4_numberAt := by decide +kernel
  refine lv_aload_n hx hb dX4_numberAt_0 rfl (lv_at hl 0 rfl) ?_
  refine va_get (D := D) (ci := 4) (v := .ref tb) (C := RX4) (T := TX4) (N := 2) hx hb hts inX4 hown hK hP 0 rfl rfl 0 (by decide) fl14 (fun _ h9 => h9) rfl dX4_numberAt_1 ?_
  refine lv_iload_n hx hb dX4_numberAt_4 rfl (lv_at hl 1 rfl) ?_
  refine k_V (q := (RX1, TX1, 2)) (ci := 1) (As := [.int (nI p0)]) (wr := [(t0, eTxt tb tn)]) ⟨hx, hb, hml, hown, hts⟩ (c_X1_at_by l D cI cC tb tba 300 tx len p0 (by omega) (by omega) (by omega)) (cwV 1 hts gX4_numberAt_X1_at rfl rfl rfl (by decide +kernel) ⟨Nat.le_of_ble_eq_true rfl, Nat.le_of_ble_eq_true rfl⟩) rfl hl.1 rfl (Nat.le_of_ble_eq_true rfl) dX4_numberAt_5 ⟨Nat.zero_le _, Nat.zero_le _⟩ hN hK hP hD hS hA rfl (q0 := 1) rfl [1, 2] [0] rfl rfl ⟨rfl, rfl, by decide⟩ (fun r1 u H locs w2 hP hD hS => ?_)
  obtain rfl : r1 = (nI (byM tx len p0)) := w2
  refine lv_bipush (v := (nI 48)) hx hb dX4_numberAt_8 (by decide) ?_
  refine x_isub hx hb dX4_numberAt_10 (by omega) ?_
  refine lv_istore_n (lv' := [(3, .int (nI (byM tx len p0 - 48))), (0, .ref t0), (1, .int (nI p0)), (2, .int (nI 1))]) hx hb dX4_numberAt_11 rfl hl (by decide) rfl (fun ls hl => ?_)
  refine lv_iload_n hx hb dX4_numberAt_12 rfl (lv_at hl 3 rfl) ?_
  refine lv_iconst (v := (nI 1)) hx hb dX4_numberAt_13 (by decide) ?_
  refine x_icmp_ne (tgt := 21) hx hb dX4_numberAt_14 (by decide) (by omega) (by omega) (fun h3 => False.elim (by omega)) (fun h3 => ?_)
  refine lv_iload_n hx hb dX4_numberAt_17 rfl (lv_at hl 0 rfl) ?_
  refine lv_goto (tgt := 39) hx hb dX4_numberAt_18 (by decide) ?_
  exact x_iret hx hb hr hlocks dX4_numberAt_39 rfl (post := fun (r : Int32) (_ : Unit) => r = (nI (byM tx len p0 - 48))) (w1 := fun (_ : Unit) => [(t0, eTxt tb tn), (tb, eRow tba len), (tba, eArr cI 300 tx)]) () rfl hK hP hD hS

set_option maxRecDepth 100000 in
set_option maxHeartbeats 4000000 in
theorem c_X4_numberAt_two (l : Launch) (D : va_G) (cI cC : ClassId) (t0 : Nat) (tb : Nat) (tba : Nat) (tn : Nat) (tx : Nat → Nat) (len : Nat) (hlen : len ≤ 300) (p0 : Nat) (hp : p0 < 900) (hB : okB tx len) (hf1 : 48 ≤ byM tx len p0 ∧ byM tx len p0 ≤ 57) (hf2 : 48 ≤ byM tx len (p0 + 1) ∧ byM tx len (p0 + 1) ≤ 57) : mtI l D cI cC yX4_numberAt wsX4_numberAt ({ frames := 1, cells := 0, slots := 0, locals := 21 }) [.ref t0, .int (nI p0), .int (nI 2)] [(t0, eTxt tb tn), (tb, eRow tba len), (tba, eArr cI 300 tx)] (fun (r : Int32) (_ : Unit) => r = (nI (10 * (byM tx len p0 - 48) + byM tx len (p0 + 1) - 48))) (fun (_ : Unit) => [(t0, eTxt tb tn), (tb, eRow tba len), (tba, eArr cI 300 tx)]) := by
  refine mtI_of (cc := cX4_numberAt) (maxL := 4) (ret := (some .int)) (by decide) rfl rfl ?_
  intro p e s m below meth c A hx hb hml hr hts hown hlocks hN hA hK hP hD hS ls hl
  have hown : s.vm.findClass RX4 = some m.cls := hown
  have hl : lv_has ls 4 [(0, .ref t0), (1, .int (nI p0)), (2, .int (nI 2))] := hl
  obtain ⟨H, hHe⟩ : ∃ H, H = s.heap := ⟨_, rfl⟩
  rw [← hHe] at hP ⊢
  have hS : va_S A s.heap H [] := by rw [hHe]; exact va_S.rf
  have fl14 := hts (.fieldLink RX4 14 "EchoPaysRent$Text" "bytes" "LEchoPaysRent$Row;") (by decide +kernel)
  have inX4 : ∀ w ∈ wsX40, w ∈ wsX4_numberAt := by decide +kernel
  refine lv_aload_n hx hb dX4_numberAt_0 rfl (lv_at hl 0 rfl) ?_
  refine va_get (D := D) (ci := 4) (v := .ref tb) (C := RX4) (T := TX4) (N := 2) hx hb hts inX4 hown hK hP 0 rfl rfl 0 (by decide) fl14 (fun _ h9 => h9) rfl dX4_numberAt_1 ?_
  refine lv_iload_n hx hb dX4_numberAt_4 rfl (lv_at hl 1 rfl) ?_
  refine k_V (q := (RX1, TX1, 2)) (ci := 1) (As := [.int (nI p0)]) (wr := [(t0, eTxt tb tn)]) ⟨hx, hb, hml, hown, hts⟩ (c_X1_at_by l D cI cC tb tba 300 tx len p0 (by omega) (by omega) (by omega)) (cwV 1 hts gX4_numberAt_X1_at rfl rfl rfl (by decide +kernel) ⟨Nat.le_of_ble_eq_true rfl, Nat.le_of_ble_eq_true rfl⟩) rfl hl.1 rfl (Nat.le_of_ble_eq_true rfl) dX4_numberAt_5 ⟨Nat.zero_le _, Nat.zero_le _⟩ hN hK hP hD hS hA rfl (q0 := 1) rfl [1, 2] [0] rfl rfl ⟨rfl, rfl, by decide⟩ (fun r1 u H locs w2 hP hD hS => ?_)
  obtain rfl : r1 = (nI (byM tx len p0)) := w2
  refine lv_bipush (v := (nI 48)) hx hb dX4_numberAt_8 (by decide) ?_
  refine x_isub hx hb dX4_numberAt_10 (by omega) ?_
  refine lv_istore_n (lv' := [(3, .int (nI (byM tx len p0 - 48))), (0, .ref t0), (1, .int (nI p0)), (2, .int (nI 2))]) hx hb dX4_numberAt_11 rfl hl (by decide) rfl (fun ls hl => ?_)
  refine lv_iload_n hx hb dX4_numberAt_12 rfl (lv_at hl 3 rfl) ?_
  refine lv_iconst (v := (nI 1)) hx hb dX4_numberAt_13 (by decide) ?_
  refine x_icmp_ne (tgt := 21) hx hb dX4_numberAt_14 (by decide) (by omega) (by omega) (fun h3 => ?_) (fun h3 => False.elim (by omega))
  refine lv_bipush (v := (nI 10)) hx hb dX4_numberAt_21 (by decide) ?_
  refine lv_iload_n hx hb dX4_numberAt_23 rfl (lv_at hl 0 rfl) ?_
  refine x_imul hx hb dX4_numberAt_24 ?_
  refine lv_aload_n hx hb dX4_numberAt_25 rfl (lv_at hl 1 rfl) ?_
  refine va_get (D := D) (ci := 4) (v := .ref tb) (C := RX4) (T := TX4) (N := 2) hx hb hts inX4 hown hK hP 0 rfl rfl 0 (by decide) fl14 (fun _ h9 => h9) rfl dX4_numberAt_26 ?_
  refine lv_iload_n hx hb dX4_numberAt_29 rfl (lv_at hl 2 rfl) ?_
  refine lv_iconst (v := (nI 1)) hx hb dX4_numberAt_30 (by decide) ?_
  refine x_iadd hx hb dX4_numberAt_31 ?_
  refine k_V (q := (RX1, TX1, 2)) (ci := 1) (As := [.int (nI (p0 + 1))]) (wr := [(t0, eTxt tb tn)]) ⟨hx, hb, hml, hown, hts⟩ (c_X1_at_by l D cI cC tb tba 300 tx len (p0 + 1) (by omega) (by omega) (by omega)) (cwV 1 hts gX4_numberAt_X1_at rfl rfl rfl (by decide +kernel) ⟨Nat.le_of_ble_eq_true rfl, Nat.le_of_ble_eq_true rfl⟩) rfl hl.1 rfl (Nat.le_of_ble_eq_true rfl) dX4_numberAt_32 ⟨Nat.zero_le _, Nat.zero_le _⟩ hN hK hP hD hS hA rfl (q0 := 1) rfl [1, 2] [0] rfl rfl ⟨rfl, rfl, by decide⟩ (fun r4 u H locs w5 hP hD hS => ?_)
  obtain rfl : r4 = (nI (byM tx len (p0 + 1))) := w5
  refine x_iadd hx hb dX4_numberAt_35 ?_
  refine lv_bipush (v := (nI 48)) hx hb dX4_numberAt_36 (by decide) ?_
  refine x_isub hx hb dX4_numberAt_38 (by omega) ?_
  exact x_iret hx hb hr hlocks dX4_numberAt_39 rfl (post := fun (r : Int32) (_ : Unit) => r = (nI (10 * (byM tx len p0 - 48) + byM tx len (p0 + 1) - 48))) (w1 := fun (_ : Unit) => [(t0, eTxt tb tn), (tb, eRow tba len), (tba, eArr cI 300 tx)]) () rfl hK hP hD hS

set_option maxRecDepth 100000 in
set_option maxHeartbeats 4000000 in
theorem c_X4_accept (l : Launch) (D : va_G) (cI cC : ClassId) (t0 : Nat) (tb : Nat) (tn : Nat) (tna : Nat) (g : Nat → Nat) (kn : Nat) (a : Nat) (b1 : Nat) (c1 : Nat) (b2 : Nat) (c2 : Nat) (cl : Nat → Nat) (nc : Nat) (wd : Nat → Nat) (nw : Nat) (sp : Nat) (he : Nat) (air : Nat) (sn : Nat) (letter : Nat) (hl256 : letter ≤ 255) (hnn : nc ≤ 4 ∧ nw ≤ 8) (hg : g 0 < 1000 ∧ g 1 < 1000 ∧ g 2 < 1000) (hk1 : 1 ≤ kn ∧ kn ≤ 3) (hk3 : letter = 102 ∨ letter = 119 → kn = 3) : mtI l D cI cC yX4_accept wsX4_accept ({ frames := 4, cells := 0, slots := 0, locals := 87 }) [.ref t0, .int (nI letter), .ref a] [(t0, eTxt tb tn), (tn, eRow tna kn), (tna, eArr cI 3 g), (a, eCan b1 b2 sp he air sn), (b1, eRow c1 (3 * nc)), (c1, eArr cI 12 cl), (b2, eRow c2 (3 * nw)), (c2, eArr cI 24 wd)] (fun (r : Int32) ((cl', nc', wd', nw', sp', he', air') : (Nat → Nat) × Nat × (Nat → Nat) × Nat × Nat × Nat × Nat) => (r = (nI 1) ∧ acceptM letter (g 0) (g 1) (g 2) (cl, nc, wd, nw, sp, he, air) = some (cl', nc', wd', nw', sp', he', air') ∧ nc' ≤ 4 ∧ nw' ≤ 8) ∨ (r = (nI 0) ∧ acceptM letter (g 0) (g 1) (g 2) (cl, nc, wd, nw, sp, he, air) = none ∧ nc' ≤ 4 ∧ nw' ≤ 8)) (fun ((cl', nc', wd', nw', sp', he', air') : (Nat → Nat) × Nat × (Nat → Nat) × Nat × Nat × Nat × Nat) => [(t0, eTxt tb tn), (tn, eRow tna kn), (tna, eArr cI 3 g), (a, eCan b1 b2 sp' he' air' sn), (b1, eRow c1 (3 * nc')), (c1, eArr cI 12 cl'), (b2, eRow c2 (3 * nw')), (c2, eArr cI 24 wd')]) := by
  refine mtI_of (cc := cX4_accept) (maxL := 3) (ret := (some .boolean)) (by decide) rfl rfl ?_
  intro p e s m below meth c A hx hb hml hr hts hown hlocks hN hA hK hP hD hS ls hl
  have hown : s.vm.findClass RX4 = some m.cls := hown
  have hl : lv_has ls 3 [(0, .ref t0), (1, .int (nI letter)), (2, .ref a)] := hl
  obtain ⟨H, hHe⟩ : ∃ H, H = s.heap := ⟨_, rfl⟩
  rw [← hHe] at hP ⊢
  have hS : va_S A s.heap H [] := by rw [hHe]; exact va_S.rf
  have fl20 := hts (.fieldLink RX4 20 "EchoPaysRent$Text" "numbers" "LEchoPaysRent$Row;") (by decide +kernel)
  have inX4 : ∀ w ∈ wsX40, w ∈ wsX4_accept := by decide +kernel
  rcases (show letter = 102 ∨ letter = 119 ∨ letter = 115 ∨ letter = 104 ∨ letter = 97 ∨ (letter ≠ 97 ∧ letter ≠ 102 ∧ letter ≠ 104 ∧ letter ≠ 115 ∧ letter ≠ 119) by omega) with hL | hL | hL | hL | hL | hL
  · have hk4 : kn = 3 := hk3 (by omega)
    refine lv_iload_n hx hb dX4_accept_0 rfl (lv_at hl 1 rfl) ?_
    refine x_top (show (nI letter) = nI 102 from congrArg nI hL) ?_
    refine lv_lookup (tgt := 52) hx hb dX4_accept_1 (by decide) rfl (by decide) ?_
    refine lv_aload_n hx hb dX4_accept_52 rfl (lv_at hl 2 rfl) ?_
    refine lv_aload_n hx hb dX4_accept_53 rfl (lv_at hl 0 rfl) ?_
    refine va_get (D := D) (ci := 4) (v := .ref tn) (C := RX4) (T := TX4) (N := 2) hx hb hts inX4 hown hK hP 0 rfl rfl 1 (by decide) fl20 (fun _ h9 => h9) rfl dX4_accept_54 ?_
    refine lv_iconst (v := (nI 0)) hx hb dX4_accept_57 (by decide) ?_
    refine k_V (q := (RX1, TX1, 2)) (ci := 1) (As := [.int (nI 0)]) (wr := [(t0, eTxt tb tn), (a, eCan b1 b2 sp he air sn), (b1, eRow c1 (3 * nc)), (c1, eArr cI 12 cl), (b2, eRow c2 (3 * nw)), (c2, eArr cI 24 wd)]) ⟨hx, hb, hml, hown, hts⟩ (c_X1_at_lt l D cI cC tn tna 3 g kn 0 (by omega) (by omega) (by omega)) (cwV 1 hts gX4_accept_X1_at rfl rfl rfl (by decide +kernel) ⟨Nat.le_of_ble_eq_true rfl, Nat.le_of_ble_eq_true rfl⟩) rfl hl.1 rfl (Nat.le_of_ble_eq_true rfl) dX4_accept_58 ⟨Nat.zero_le _, Nat.zero_le _⟩ hN hK hP hD hS hA rfl (q0 := 1) rfl [1, 2] [0, 3, 4, 5, 6, 7] rfl rfl ⟨rfl, rfl, by decide⟩ (fun r1 u H locs w2 hP hD hS => ?_)
    obtain rfl : r1 = (nI (g 0)) := w2
    refine lv_aload_n hx hb dX4_accept_61 rfl (lv_at hl 0 rfl) ?_
    refine va_get (D := D) (ci := 4) (v := .ref tn) (C := RX4) (T := TX4) (N := 2) hx hb hts inX4 hown hK hP 0 rfl rfl 1 (by decide) fl20 (fun _ h9 => h9) rfl dX4_accept_62 ?_
    refine lv_iconst (v := (nI 1)) hx hb dX4_accept_65 (by decide) ?_
    refine k_V (q := (RX1, TX1, 2)) (ci := 1) (As := [.int (nI 1)]) (wr := [(t0, eTxt tb tn), (a, eCan b1 b2 sp he air sn), (b1, eRow c1 (3 * nc)), (c1, eArr cI 12 cl), (b2, eRow c2 (3 * nw)), (c2, eArr cI 24 wd)]) ⟨hx, hb, hml, hown, hts⟩ (c_X1_at_lt l D cI cC tn tna 3 g kn 1 (by omega) (by omega) (by omega)) (cwV 1 hts gX4_accept_X1_at rfl rfl rfl (by decide +kernel) ⟨Nat.le_of_ble_eq_true rfl, Nat.le_of_ble_eq_true rfl⟩) rfl hl.1 rfl (Nat.le_of_ble_eq_true rfl) dX4_accept_66 ⟨Nat.zero_le _, Nat.zero_le _⟩ hN hK hP hD hS hA rfl (q0 := 6) rfl [6, 7] [0, 1, 2, 3, 4, 5] rfl rfl ⟨rfl, rfl, by decide⟩ (fun r3 u H locs w4 hP hD hS => ?_)
    obtain rfl : r3 = (nI (g 1)) := w4
    refine lv_aload_n hx hb dX4_accept_69 rfl (lv_at hl 0 rfl) ?_
    refine va_get (D := D) (ci := 4) (v := .ref tn) (C := RX4) (T := TX4) (N := 2) hx hb hts inX4 hown hK hP 0 rfl rfl 1 (by decide) fl20 (fun _ h9 => h9) rfl dX4_accept_70 ?_
    refine lv_iconst (v := (nI 2)) hx hb dX4_accept_73 (by decide) ?_
    refine k_V (q := (RX1, TX1, 2)) (ci := 1) (As := [.int (nI 2)]) (wr := [(t0, eTxt tb tn), (a, eCan b1 b2 sp he air sn), (b1, eRow c1 (3 * nc)), (c1, eArr cI 12 cl), (b2, eRow c2 (3 * nw)), (c2, eArr cI 24 wd)]) ⟨hx, hb, hml, hown, hts⟩ (c_X1_at_lt l D cI cC tn tna 3 g kn 2 (by omega) (by omega) (by omega)) (cwV 1 hts gX4_accept_X1_at rfl rfl rfl (by decide +kernel) ⟨Nat.le_of_ble_eq_true rfl, Nat.le_of_ble_eq_true rfl⟩) rfl hl.1 rfl (Nat.le_of_ble_eq_true rfl) dX4_accept_74 ⟨Nat.zero_le _, Nat.zero_le _⟩ hN hK hP hD hS hA rfl (q0 := 6) rfl [6, 7] [0, 1, 2, 3, 4, 5] rfl rfl ⟨rfl, rfl, by decide⟩ (fun r5 u H locs w6 hP hD hS => ?_)
    obtain rfl : r5 = (nI (g 2)) := w6
    rcases (show (g 0 ≤ 40 ∧ g 1 ≤ 9 ∧ g 2 ≤ 3 ∧ nc < 4) ∨ (40 < g 0 ∨ 9 < g 1 ∨ 3 < g 2 ∨ nc = 4) by omega) with hc | hc
    · refine k_V (q := (RX0, TX0, 6)) (ci := 0) (As := [.int (nI (g 0)), .int (nI (g 1)), .int (nI (g 2))]) (wr := [(t0, eTxt tb tn), (b2, eRow c2 (3 * nw)), (c2, eArr cI 24 wd), (tn, eRow tna kn), (tna, eArr cI 3 g)]) ⟨hx, hb, hml, hown, hts⟩ (c_X0_addCliff_ok l D cI cC a b1 b2 sp he air sn c1 cl nc (g 0) (g 1) (g 2) hc) (cwV 3 hts gX4_accept_X0_addCliff rfl rfl rfl (by decide +kernel) ⟨Nat.le_of_ble_eq_true rfl, Nat.le_of_ble_eq_true rfl⟩) rfl hl.1 rfl (Nat.le_of_ble_eq_true rfl) dX4_accept_77 ⟨Nat.zero_le _, Nat.zero_le _⟩ hN hK hP hD hS hA rfl (q0 := 1) rfl [1, 2, 3] [0, 4, 5, 6, 7] rfl rfl ⟨rfl, rfl, by decide⟩ (fun r7 u H locs w8 hP hD hS => ?_)
      obtain rfl : r7 = (nI 1) := w8
      exact x_iret hx hb hr hlocks dX4_accept_80 rfl (post := fun (r : Int32) ((cl', nc', wd', nw', sp', he', air') : (Nat → Nat) × Nat × (Nat → Nat) × Nat × Nat × Nat × Nat) => (r = (nI 1) ∧ acceptM letter (g 0) (g 1) (g 2) (cl, nc, wd, nw, sp, he, air) = some (cl', nc', wd', nw', sp', he', air') ∧ nc' ≤ 4 ∧ nw' ≤ 8) ∨ (r = (nI 0) ∧ acceptM letter (g 0) (g 1) (g 2) (cl, nc, wd, nw, sp, he, air) = none ∧ nc' ≤ 4 ∧ nw' ≤ 8)) (w1 := fun ((cl', nc', wd', nw', sp', he', air') : (Nat → Nat) × Nat × (Nat → Nat) × Nat × Nat × Nat × Nat) => [(t0, eTxt tb tn), (tn, eRow tna kn), (tna, eArr cI 3 g), (a, eCan b1 b2 sp' he' air' sn), (b1, eRow c1 (3 * nc')), (c1, eArr cI 12 cl'), (b2, eRow c2 (3 * nw')), (c2, eArr cI 24 wd')]) (add3 cl (3 * nc) (g 0) (g 1) (g 2), nc + 1, wd, nw, sp, he, air) (Or.inl ⟨rfl, (by unfold acceptM; dsimp only; rw [if_pos hL]; rw [if_pos (by omega)]), by omega, by omega⟩) hK (hP.sub [0, 3, 4, 5, 6, 7, 1, 2] rfl) (hD.sub [0, 3, 4, 5, 6, 7, 1, 2] rfl rfl) hS
    · refine k_V (q := (RX0, TX0, 6)) (ci := 0) (As := [.int (nI (g 0)), .int (nI (g 1)), .int (nI (g 2))]) (wr := [(t0, eTxt tb tn), (b2, eRow c2 (3 * nw)), (c2, eArr cI 24 wd), (tn, eRow tna kn), (tna, eArr cI 3 g)]) ⟨hx, hb, hml, hown, hts⟩ (c_X0_addCliff_no l D cI cC a b1 b2 sp he air sn c1 cl nc (g 0) (g 1) (g 2) (by omega) hc (by omega)) (cwV 3 hts gX4_accept_X0_addCliff rfl rfl rfl (by decide +kernel) ⟨Nat.le_of_ble_eq_true rfl, Nat.le_of_ble_eq_true rfl⟩) rfl hl.1 rfl (Nat.le_of_ble_eq_true rfl) dX4_accept_77 ⟨Nat.zero_le _, Nat.zero_le _⟩ hN hK hP hD hS hA rfl (q0 := 1) rfl [1, 2, 3] [0, 4, 5, 6, 7] rfl rfl ⟨rfl, rfl, by decide⟩ (fun r9 u H locs w10 hP hD hS => ?_)
      obtain rfl : r9 = (nI 0) := w10
      exact x_iret hx hb hr hlocks dX4_accept_80 rfl (post := fun (r : Int32) ((cl', nc', wd', nw', sp', he', air') : (Nat → Nat) × Nat × (Nat → Nat) × Nat × Nat × Nat × Nat) => (r = (nI 1) ∧ acceptM letter (g 0) (g 1) (g 2) (cl, nc, wd, nw, sp, he, air) = some (cl', nc', wd', nw', sp', he', air') ∧ nc' ≤ 4 ∧ nw' ≤ 8) ∨ (r = (nI 0) ∧ acceptM letter (g 0) (g 1) (g 2) (cl, nc, wd, nw, sp, he, air) = none ∧ nc' ≤ 4 ∧ nw' ≤ 8)) (w1 := fun ((cl', nc', wd', nw', sp', he', air') : (Nat → Nat) × Nat × (Nat → Nat) × Nat × Nat × Nat × Nat) => [(t0, eTxt tb tn), (tn, eRow tna kn), (tna, eArr cI 3 g), (a, eCan b1 b2 sp' he' air' sn), (b1, eRow c1 (3 * nc')), (c1, eArr cI 12 cl'), (b2, eRow c2 (3 * nw')), (c2, eArr cI 24 wd')]) (cl, nc, wd, nw, sp, he, air) (Or.inr ⟨rfl, (by unfold acceptM; dsimp only; rw [if_pos hL]; rw [if_neg (by omega)]), by omega, by omega⟩) hK (hP.sub [0, 3, 4, 5, 6, 7, 1, 2] rfl) (hD.sub [0, 3, 4, 5, 6, 7, 1, 2] rfl rfl) hS
  · have hk4 : kn = 3 := hk3 (by omega)
    refine lv_iload_n hx hb dX4_accept_0 rfl (lv_at hl 1 rfl) ?_
    refine x_top (show (nI letter) = nI 119 from congrArg nI hL) ?_
    refine lv_lookup (tgt := 81) hx hb dX4_accept_1 (by decide) rfl (by decide) ?_
    refine lv_aload_n hx hb dX4_accept_81 rfl (lv_at hl 2 rfl) ?_
    refine lv_aload_n hx hb dX4_accept_82 rfl (lv_at hl 0 rfl) ?_
    refine va_get (D := D) (ci := 4) (v := .ref tn) (C := RX4) (T := TX4) (N := 2) hx hb hts inX4 hown hK hP 0 rfl rfl 1 (by decide) fl20 (fun _ h9 => h9) rfl dX4_accept_83 ?_
    refine lv_iconst (v := (nI 0)) hx hb dX4_accept_86 (by decide) ?_
    refine k_V (q := (RX1, TX1, 2)) (ci := 1) (As := [.int (nI 0)]) (wr := [(t0, eTxt tb tn), (a, eCan b1 b2 sp he air sn), (b1, eRow c1 (3 * nc)), (c1, eArr cI 12 cl), (b2, eRow c2 (3 * nw)), (c2, eArr cI 24 wd)]) ⟨hx, hb, hml, hown, hts⟩ (c_X1_at_lt l D cI cC tn tna 3 g kn 0 (by omega) (by omega) (by omega)) (cwV 1 hts gX4_accept_X1_at rfl rfl rfl (by decide +kernel) ⟨Nat.le_of_ble_eq_true rfl, Nat.le_of_ble_eq_true rfl⟩) rfl hl.1 rfl (Nat.le_of_ble_eq_true rfl) dX4_accept_87 ⟨Nat.zero_le _, Nat.zero_le _⟩ hN hK hP hD hS hA rfl (q0 := 1) rfl [1, 2] [0, 3, 4, 5, 6, 7] rfl rfl ⟨rfl, rfl, by decide⟩ (fun r11 u H locs w12 hP hD hS => ?_)
    obtain rfl : r11 = (nI (g 0)) := w12
    refine lv_aload_n hx hb dX4_accept_90 rfl (lv_at hl 0 rfl) ?_
    refine va_get (D := D) (ci := 4) (v := .ref tn) (C := RX4) (T := TX4) (N := 2) hx hb hts inX4 hown hK hP 0 rfl rfl 1 (by decide) fl20 (fun _ h9 => h9) rfl dX4_accept_91 ?_
    refine lv_iconst (v := (nI 1)) hx hb dX4_accept_94 (by decide) ?_
    refine k_V (q := (RX1, TX1, 2)) (ci := 1) (As := [.int (nI 1)]) (wr := [(t0, eTxt tb tn), (a, eCan b1 b2 sp he air sn), (b1, eRow c1 (3 * nc)), (c1, eArr cI 12 cl), (b2, eRow c2 (3 * nw)), (c2, eArr cI 24 wd)]) ⟨hx, hb, hml, hown, hts⟩ (c_X1_at_lt l D cI cC tn tna 3 g kn 1 (by omega) (by omega) (by omega)) (cwV 1 hts gX4_accept_X1_at rfl rfl rfl (by decide +kernel) ⟨Nat.le_of_ble_eq_true rfl, Nat.le_of_ble_eq_true rfl⟩) rfl hl.1 rfl (Nat.le_of_ble_eq_true rfl) dX4_accept_95 ⟨Nat.zero_le _, Nat.zero_le _⟩ hN hK hP hD hS hA rfl (q0 := 6) rfl [6, 7] [0, 1, 2, 3, 4, 5] rfl rfl ⟨rfl, rfl, by decide⟩ (fun r13 u H locs w14 hP hD hS => ?_)
    obtain rfl : r13 = (nI (g 1)) := w14
    refine lv_aload_n hx hb dX4_accept_98 rfl (lv_at hl 0 rfl) ?_
    refine va_get (D := D) (ci := 4) (v := .ref tn) (C := RX4) (T := TX4) (N := 2) hx hb hts inX4 hown hK hP 0 rfl rfl 1 (by decide) fl20 (fun _ h9 => h9) rfl dX4_accept_99 ?_
    refine lv_iconst (v := (nI 2)) hx hb dX4_accept_102 (by decide) ?_
    refine k_V (q := (RX1, TX1, 2)) (ci := 1) (As := [.int (nI 2)]) (wr := [(t0, eTxt tb tn), (a, eCan b1 b2 sp he air sn), (b1, eRow c1 (3 * nc)), (c1, eArr cI 12 cl), (b2, eRow c2 (3 * nw)), (c2, eArr cI 24 wd)]) ⟨hx, hb, hml, hown, hts⟩ (c_X1_at_lt l D cI cC tn tna 3 g kn 2 (by omega) (by omega) (by omega)) (cwV 1 hts gX4_accept_X1_at rfl rfl rfl (by decide +kernel) ⟨Nat.le_of_ble_eq_true rfl, Nat.le_of_ble_eq_true rfl⟩) rfl hl.1 rfl (Nat.le_of_ble_eq_true rfl) dX4_accept_103 ⟨Nat.zero_le _, Nat.zero_le _⟩ hN hK hP hD hS hA rfl (q0 := 6) rfl [6, 7] [0, 1, 2, 3, 4, 5] rfl rfl ⟨rfl, rfl, by decide⟩ (fun r15 u H locs w16 hP hD hS => ?_)
    obtain rfl : r15 = (nI (g 2)) := w16
    rcases (show (g 0 ≤ 30 ∧ 1 ≤ g 1 ∧ g 1 ≤ 7 ∧ 1 ≤ g 2 ∧ g 2 ≤ 60 ∧ nw < 8) ∨ (30 < g 0 ∨ g 1 < 1 ∨ 7 < g 1 ∨ g 2 < 1 ∨ 60 < g 2 ∨ nw = 8) by omega) with hc | hc
    · refine k_V (q := (RX0, TX0, 6)) (ci := 0) (As := [.int (nI (g 0)), .int (nI (g 1)), .int (nI (g 2))]) (wr := [(t0, eTxt tb tn), (b1, eRow c1 (3 * nc)), (c1, eArr cI 12 cl), (tn, eRow tna kn), (tna, eArr cI 3 g)]) ⟨hx, hb, hml, hown, hts⟩ (c_X0_addWord_ok l D cI cC a b1 b2 sp he air sn c2 wd nw (g 0) (g 1) (g 2) hc) (cwV 3 hts gX4_accept_X0_addWord rfl rfl rfl (by decide +kernel) ⟨Nat.le_of_ble_eq_true rfl, Nat.le_of_ble_eq_true rfl⟩) rfl hl.1 rfl (Nat.le_of_ble_eq_true rfl) dX4_accept_106 ⟨Nat.zero_le _, Nat.zero_le _⟩ hN hK hP hD hS hA rfl (q0 := 1) rfl [1, 4, 5] [0, 2, 3, 6, 7] rfl rfl ⟨rfl, rfl, by decide⟩ (fun r17 u H locs w18 hP hD hS => ?_)
      obtain rfl : r17 = (nI 1) := w18
      exact x_iret hx hb hr hlocks dX4_accept_109 rfl (post := fun (r : Int32) ((cl', nc', wd', nw', sp', he', air') : (Nat → Nat) × Nat × (Nat → Nat) × Nat × Nat × Nat × Nat) => (r = (nI 1) ∧ acceptM letter (g 0) (g 1) (g 2) (cl, nc, wd, nw, sp, he, air) = some (cl', nc', wd', nw', sp', he', air') ∧ nc' ≤ 4 ∧ nw' ≤ 8) ∨ (r = (nI 0) ∧ acceptM letter (g 0) (g 1) (g 2) (cl, nc, wd, nw, sp, he, air) = none ∧ nc' ≤ 4 ∧ nw' ≤ 8)) (w1 := fun ((cl', nc', wd', nw', sp', he', air') : (Nat → Nat) × Nat × (Nat → Nat) × Nat × Nat × Nat × Nat) => [(t0, eTxt tb tn), (tn, eRow tna kn), (tna, eArr cI 3 g), (a, eCan b1 b2 sp' he' air' sn), (b1, eRow c1 (3 * nc')), (c1, eArr cI 12 cl'), (b2, eRow c2 (3 * nw')), (c2, eArr cI 24 wd')]) (cl, nc, add3 wd (3 * nw) (g 0) (g 1) (g 2), nw + 1, sp, he, air) (Or.inl ⟨rfl, (by unfold acceptM; dsimp only; rw [if_neg (by omega)]; rw [if_pos hL]; rw [if_pos (by omega)]), by omega, by omega⟩) hK (hP.sub [0, 3, 4, 5, 1, 2, 6, 7] rfl) (hD.sub [0, 3, 4, 5, 1, 2, 6, 7] rfl rfl) hS
    · refine k_V (q := (RX0, TX0, 6)) (ci := 0) (As := [.int (nI (g 0)), .int (nI (g 1)), .int (nI (g 2))]) (wr := [(t0, eTxt tb tn), (b1, eRow c1 (3 * nc)), (c1, eArr cI 12 cl), (tn, eRow tna kn), (tna, eArr cI 3 g)]) ⟨hx, hb, hml, hown, hts⟩ (c_X0_addWord_no l D cI cC a b1 b2 sp he air sn c2 wd nw (g 0) (g 1) (g 2) (by omega) hc (by omega)) (cwV 3 hts gX4_accept_X0_addWord rfl rfl rfl (by decide +kernel) ⟨Nat.le_of_ble_eq_true rfl, Nat.le_of_ble_eq_true rfl⟩) rfl hl.1 rfl (Nat.le_of_ble_eq_true rfl) dX4_accept_106 ⟨Nat.zero_le _, Nat.zero_le _⟩ hN hK hP hD hS hA rfl (q0 := 1) rfl [1, 4, 5] [0, 2, 3, 6, 7] rfl rfl ⟨rfl, rfl, by decide⟩ (fun r19 u H locs w20 hP hD hS => ?_)
      obtain rfl : r19 = (nI 0) := w20
      exact x_iret hx hb hr hlocks dX4_accept_109 rfl (post := fun (r : Int32) ((cl', nc', wd', nw', sp', he', air') : (Nat → Nat) × Nat × (Nat → Nat) × Nat × Nat × Nat × Nat) => (r = (nI 1) ∧ acceptM letter (g 0) (g 1) (g 2) (cl, nc, wd, nw, sp, he, air) = some (cl', nc', wd', nw', sp', he', air') ∧ nc' ≤ 4 ∧ nw' ≤ 8) ∨ (r = (nI 0) ∧ acceptM letter (g 0) (g 1) (g 2) (cl, nc, wd, nw, sp, he, air) = none ∧ nc' ≤ 4 ∧ nw' ≤ 8)) (w1 := fun ((cl', nc', wd', nw', sp', he', air') : (Nat → Nat) × Nat × (Nat → Nat) × Nat × Nat × Nat × Nat) => [(t0, eTxt tb tn), (tn, eRow tna kn), (tna, eArr cI 3 g), (a, eCan b1 b2 sp' he' air' sn), (b1, eRow c1 (3 * nc')), (c1, eArr cI 12 cl'), (b2, eRow c2 (3 * nw')), (c2, eArr cI 24 wd')]) (cl, nc, wd, nw, sp, he, air) (Or.inr ⟨rfl, (by unfold acceptM; dsimp only; rw [if_neg (by omega)]; rw [if_pos hL]; rw [if_neg (by omega)]), by omega, by omega⟩) hK (hP.sub [0, 3, 4, 5, 1, 2, 6, 7] rfl) (hD.sub [0, 3, 4, 5, 1, 2, 6, 7] rfl rfl) hS
  · have hk4 : 1 ≤ kn := hk1.1
    refine lv_iload_n hx hb dX4_accept_0 rfl (lv_at hl 1 rfl) ?_
    refine x_top (show (nI letter) = nI 115 from congrArg nI hL) ?_
    refine lv_lookup (tgt := 110) hx hb dX4_accept_1 (by decide) rfl (by decide) ?_
    refine lv_aload_n hx hb dX4_accept_110 rfl (lv_at hl 2 rfl) ?_
    refine lv_aload_n hx hb dX4_accept_111 rfl (lv_at hl 0 rfl) ?_
    refine va_get (D := D) (ci := 4) (v := .ref tn) (C := RX4) (T := TX4) (N := 2) hx hb hts inX4 hown hK hP 0 rfl rfl 1 (by decide) fl20 (fun _ h9 => h9) rfl dX4_accept_112 ?_
    refine lv_iconst (v := (nI 0)) hx hb dX4_accept_115 (by decide) ?_
    refine k_V (q := (RX1, TX1, 2)) (ci := 1) (As := [.int (nI 0)]) (wr := [(t0, eTxt tb tn), (a, eCan b1 b2 sp he air sn), (b1, eRow c1 (3 * nc)), (c1, eArr cI 12 cl), (b2, eRow c2 (3 * nw)), (c2, eArr cI 24 wd)]) ⟨hx, hb, hml, hown, hts⟩ (c_X1_at_lt l D cI cC tn tna 3 g kn 0 (by omega) (by omega) (by omega)) (cwV 1 hts gX4_accept_X1_at rfl rfl rfl (by decide +kernel) ⟨Nat.le_of_ble_eq_true rfl, Nat.le_of_ble_eq_true rfl⟩) rfl hl.1 rfl (Nat.le_of_ble_eq_true rfl) dX4_accept_116 ⟨Nat.zero_le _, Nat.zero_le _⟩ hN hK hP hD hS hA rfl (q0 := 1) rfl [1, 2] [0, 3, 4, 5, 6, 7] rfl rfl ⟨rfl, rfl, by decide⟩ (fun r21 u H locs w22 hP hD hS => ?_)
    obtain rfl : r21 = (nI (g 0)) := w22
    refine k_V (q := (RX0, TX0, 6)) (ci := 0) (As := [.int (nI (g 0))]) (wr := [(t0, eTxt tb tn), (b1, eRow c1 (3 * nc)), (c1, eArr cI 12 cl), (b2, eRow c2 (3 * nw)), (c2, eArr cI 24 wd), (tn, eRow tna kn), (tna, eArr cI 3 g)]) ⟨hx, hb, hml, hown, hts⟩ (c_X0_setSpeaker l D cI cC a b1 b2 sp he air sn (g 0) (by omega)) (cwV 1 hts gX4_accept_X0_setSpeaker rfl rfl rfl (by decide +kernel) ⟨Nat.le_of_ble_eq_true rfl, Nat.le_of_ble_eq_true rfl⟩) rfl hl.1 rfl (Nat.le_of_ble_eq_true rfl) dX4_accept_119 ⟨Nat.zero_le _, Nat.zero_le _⟩ hN hK hP hD hS hA rfl (q0 := 1) rfl [1] [0, 2, 3, 4, 5, 6, 7] rfl rfl ⟨rfl, rfl, by decide⟩ (fun r23 u H locs w24 hP hD hS => ?_)
    obtain ⟨rfl, h25, h26⟩ | ⟨rfl, h27⟩ : (r23 = (nI 1) ∧ 0 ≤ (g 0) ∧ (g 0) ≤ 40) ∨ (r23 = (nI 0) ∧ ((g 0) < 0 ∨ 40 < (g 0))) := w24
    · exact x_iret hx hb hr hlocks dX4_accept_122 rfl (post := fun (r : Int32) ((cl', nc', wd', nw', sp', he', air') : (Nat → Nat) × Nat × (Nat → Nat) × Nat × Nat × Nat × Nat) => (r = (nI 1) ∧ acceptM letter (g 0) (g 1) (g 2) (cl, nc, wd, nw, sp, he, air) = some (cl', nc', wd', nw', sp', he', air') ∧ nc' ≤ 4 ∧ nw' ≤ 8) ∨ (r = (nI 0) ∧ acceptM letter (g 0) (g 1) (g 2) (cl, nc, wd, nw, sp, he, air) = none ∧ nc' ≤ 4 ∧ nw' ≤ 8)) (w1 := fun ((cl', nc', wd', nw', sp', he', air') : (Nat → Nat) × Nat × (Nat → Nat) × Nat × Nat × Nat × Nat) => [(t0, eTxt tb tn), (tn, eRow tna kn), (tna, eArr cI 3 g), (a, eCan b1 b2 sp' he' air' sn), (b1, eRow c1 (3 * nc')), (c1, eArr cI 12 cl'), (b2, eRow c2 (3 * nw')), (c2, eArr cI 24 wd')]) (cl, nc, wd, nw, g 0, he, air) (Or.inl ⟨rfl, (by unfold acceptM; dsimp only; rw [if_neg (by omega)]; rw [if_neg (by omega)]; rw [if_pos hL]; rw [if_pos (by omega)]), by omega, by omega⟩) hK (hP.sub [0, 5, 6, 7, 1, 2, 3, 4] rfl) (hD.sub [0, 5, 6, 7, 1, 2, 3, 4] rfl rfl) hS
    · exact x_iret hx hb hr hlocks dX4_accept_122 rfl (post := fun (r : Int32) ((cl', nc', wd', nw', sp', he', air') : (Nat → Nat) × Nat × (Nat → Nat) × Nat × Nat × Nat × Nat) => (r = (nI 1) ∧ acceptM letter (g 0) (g 1) (g 2) (cl, nc, wd, nw, sp, he, air) = some (cl', nc', wd', nw', sp', he', air') ∧ nc' ≤ 4 ∧ nw' ≤ 8) ∨ (r = (nI 0) ∧ acceptM letter (g 0) (g 1) (g 2) (cl, nc, wd, nw, sp, he, air) = none ∧ nc' ≤ 4 ∧ nw' ≤ 8)) (w1 := fun ((cl', nc', wd', nw', sp', he', air') : (Nat → Nat) × Nat × (Nat → Nat) × Nat × Nat × Nat × Nat) => [(t0, eTxt tb tn), (tn, eRow tna kn), (tna, eArr cI 3 g), (a, eCan b1 b2 sp' he' air' sn), (b1, eRow c1 (3 * nc')), (c1, eArr cI 12 cl'), (b2, eRow c2 (3 * nw')), (c2, eArr cI 24 wd')]) (cl, nc, wd, nw, g 0, he, air) (Or.inr ⟨rfl, (by unfold acceptM; dsimp only; rw [if_neg (by omega)]; rw [if_neg (by omega)]; rw [if_pos hL]; rw [if_neg (by omega)]), by omega, by omega⟩) hK (hP.sub [0, 5, 6, 7, 1, 2, 3, 4] rfl) (hD.sub [0, 5, 6, 7, 1, 2, 3, 4] rfl rfl) hS
  · have hk4 : 1 ≤ kn := hk1.1
    refine lv_iload_n hx hb dX4_accept_0 rfl (lv_at hl 1 rfl) ?_
    refine x_top (show (nI letter) = nI 104 from congrArg nI hL) ?_
    refine lv_lookup (tgt := 123) hx hb dX4_accept_1 (by decide) rfl (by decide) ?_
    refine lv_aload_n hx hb dX4_accept_123 rfl (lv_at hl 2 rfl) ?_
    refine lv_aload_n hx hb dX4_accept_124 rfl (lv_at hl 0 rfl) ?_
    refine va_get (D := D) (ci := 4) (v := .ref tn) (C := RX4) (T := TX4) (N := 2) hx hb hts inX4 hown hK hP 0 rfl rfl 1 (by decide) fl20 (fun _ h9 => h9) rfl dX4_accept_125 ?_
    refine lv_iconst (v := (nI 0)) hx hb dX4_accept_128 (by decide) ?_
    refine k_V (q := (RX1, TX1, 2)) (ci := 1) (As := [.int (nI 0)]) (wr := [(t0, eTxt tb tn), (a, eCan b1 b2 sp he air sn), (b1, eRow c1 (3 * nc)), (c1, eArr cI 12 cl), (b2, eRow c2 (3 * nw)), (c2, eArr cI 24 wd)]) ⟨hx, hb, hml, hown, hts⟩ (c_X1_at_lt l D cI cC tn tna 3 g kn 0 (by omega) (by omega) (by omega)) (cwV 1 hts gX4_accept_X1_at rfl rfl rfl (by decide +kernel) ⟨Nat.le_of_ble_eq_true rfl, Nat.le_of_ble_eq_true rfl⟩) rfl hl.1 rfl (Nat.le_of_ble_eq_true rfl) dX4_accept_129 ⟨Nat.zero_le _, Nat.zero_le _⟩ hN hK hP hD hS hA rfl (q0 := 1) rfl [1, 2] [0, 3, 4, 5, 6, 7] rfl rfl ⟨rfl, rfl, by decide⟩ (fun r28 u H locs w29 hP hD hS => ?_)
    obtain rfl : r28 = (nI (g 0)) := w29
    refine k_V (q := (RX0, TX0, 6)) (ci := 0) (As := [.int (nI (g 0))]) (wr := [(t0, eTxt tb tn), (b1, eRow c1 (3 * nc)), (c1, eArr cI 12 cl), (b2, eRow c2 (3 * nw)), (c2, eArr cI 24 wd), (tn, eRow tna kn), (tna, eArr cI 3 g)]) ⟨hx, hb, hml, hown, hts⟩ (c_X0_setHearer l D cI cC a b1 b2 sp he air sn (g 0) (by omega)) (cwV 1 hts gX4_accept_X0_setHearer rfl rfl rfl (by decide +kernel) ⟨Nat.le_of_ble_eq_true rfl, Nat.le_of_ble_eq_true rfl⟩) rfl hl.1 rfl (Nat.le_of_ble_eq_true rfl) dX4_accept_132 ⟨Nat.zero_le _, Nat.zero_le _⟩ hN hK hP hD hS hA rfl (q0 := 1) rfl [1] [0, 2, 3, 4, 5, 6, 7] rfl rfl ⟨rfl, rfl, by decide⟩ (fun r30 u H locs w31 hP hD hS => ?_)
    obtain ⟨rfl, h32, h33⟩ | ⟨rfl, h34⟩ : (r30 = (nI 1) ∧ 0 ≤ (g 0) ∧ (g 0) ≤ 40) ∨ (r30 = (nI 0) ∧ ((g 0) < 0 ∨ 40 < (g 0))) := w31
    · exact x_iret hx hb hr hlocks dX4_accept_135 rfl (post := fun (r : Int32) ((cl', nc', wd', nw', sp', he', air') : (Nat → Nat) × Nat × (Nat → Nat) × Nat × Nat × Nat × Nat) => (r = (nI 1) ∧ acceptM letter (g 0) (g 1) (g 2) (cl, nc, wd, nw, sp, he, air) = some (cl', nc', wd', nw', sp', he', air') ∧ nc' ≤ 4 ∧ nw' ≤ 8) ∨ (r = (nI 0) ∧ acceptM letter (g 0) (g 1) (g 2) (cl, nc, wd, nw, sp, he, air) = none ∧ nc' ≤ 4 ∧ nw' ≤ 8)) (w1 := fun ((cl', nc', wd', nw', sp', he', air') : (Nat → Nat) × Nat × (Nat → Nat) × Nat × Nat × Nat × Nat) => [(t0, eTxt tb tn), (tn, eRow tna kn), (tna, eArr cI 3 g), (a, eCan b1 b2 sp' he' air' sn), (b1, eRow c1 (3 * nc')), (c1, eArr cI 12 cl'), (b2, eRow c2 (3 * nw')), (c2, eArr cI 24 wd')]) (cl, nc, wd, nw, sp, g 0, air) (Or.inl ⟨rfl, (by unfold acceptM; dsimp only; rw [if_neg (by omega)]; rw [if_neg (by omega)]; rw [if_neg (by omega)]; rw [if_pos hL]; rw [if_pos (by omega)]), by omega, by omega⟩) hK (hP.sub [0, 5, 6, 7, 1, 2, 3, 4] rfl) (hD.sub [0, 5, 6, 7, 1, 2, 3, 4] rfl rfl) hS
    · exact x_iret hx hb hr hlocks dX4_accept_135 rfl (post := fun (r : Int32) ((cl', nc', wd', nw', sp', he', air') : (Nat → Nat) × Nat × (Nat → Nat) × Nat × Nat × Nat × Nat) => (r = (nI 1) ∧ acceptM letter (g 0) (g 1) (g 2) (cl, nc, wd, nw, sp, he, air) = some (cl', nc', wd', nw', sp', he', air') ∧ nc' ≤ 4 ∧ nw' ≤ 8) ∨ (r = (nI 0) ∧ acceptM letter (g 0) (g 1) (g 2) (cl, nc, wd, nw, sp, he, air) = none ∧ nc' ≤ 4 ∧ nw' ≤ 8)) (w1 := fun ((cl', nc', wd', nw', sp', he', air') : (Nat → Nat) × Nat × (Nat → Nat) × Nat × Nat × Nat × Nat) => [(t0, eTxt tb tn), (tn, eRow tna kn), (tna, eArr cI 3 g), (a, eCan b1 b2 sp' he' air' sn), (b1, eRow c1 (3 * nc')), (c1, eArr cI 12 cl'), (b2, eRow c2 (3 * nw')), (c2, eArr cI 24 wd')]) (cl, nc, wd, nw, sp, g 0, air) (Or.inr ⟨rfl, (by unfold acceptM; dsimp only; rw [if_neg (by omega)]; rw [if_neg (by omega)]; rw [if_neg (by omega)]; rw [if_pos hL]; rw [if_neg (by omega)]), by omega, by omega⟩) hK (hP.sub [0, 5, 6, 7, 1, 2, 3, 4] rfl) (hD.sub [0, 5, 6, 7, 1, 2, 3, 4] rfl rfl) hS
  · have hk4 : 1 ≤ kn := hk1.1
    refine lv_iload_n hx hb dX4_accept_0 rfl (lv_at hl 1 rfl) ?_
    refine x_top (show (nI letter) = nI 97 from congrArg nI hL) ?_
    refine lv_lookup (tgt := 136) hx hb dX4_accept_1 (by decide) rfl (by decide) ?_
    refine lv_aload_n hx hb dX4_accept_136 rfl (lv_at hl 2 rfl) ?_
    refine lv_aload_n hx hb dX4_accept_137 rfl (lv_at hl 0 rfl) ?_
    refine va_get (D := D) (ci := 4) (v := .ref tn) (C := RX4) (T := TX4) (N := 2) hx hb hts inX4 hown hK hP 0 rfl rfl 1 (by decide) fl20 (fun _ h9 => h9) rfl dX4_accept_138 ?_
    refine lv_iconst (v := (nI 0)) hx hb dX4_accept_141 (by decide) ?_
    refine k_V (q := (RX1, TX1, 2)) (ci := 1) (As := [.int (nI 0)]) (wr := [(t0, eTxt tb tn), (a, eCan b1 b2 sp he air sn), (b1, eRow c1 (3 * nc)), (c1, eArr cI 12 cl), (b2, eRow c2 (3 * nw)), (c2, eArr cI 24 wd)]) ⟨hx, hb, hml, hown, hts⟩ (c_X1_at_lt l D cI cC tn tna 3 g kn 0 (by omega) (by omega) (by omega)) (cwV 1 hts gX4_accept_X1_at rfl rfl rfl (by decide +kernel) ⟨Nat.le_of_ble_eq_true rfl, Nat.le_of_ble_eq_true rfl⟩) rfl hl.1 rfl (Nat.le_of_ble_eq_true rfl) dX4_accept_142 ⟨Nat.zero_le _, Nat.zero_le _⟩ hN hK hP hD hS hA rfl (q0 := 1) rfl [1, 2] [0, 3, 4, 5, 6, 7] rfl rfl ⟨rfl, rfl, by decide⟩ (fun r35 u H locs w36 hP hD hS => ?_)
    obtain rfl : r35 = (nI (g 0)) := w36
    refine k_V (q := (RX0, TX0, 6)) (ci := 0) (As := [.int (nI (g 0))]) (wr := [(t0, eTxt tb tn), (b1, eRow c1 (3 * nc)), (c1, eArr cI 12 cl), (b2, eRow c2 (3 * nw)), (c2, eArr cI 24 wd), (tn, eRow tna kn), (tna, eArr cI 3 g)]) ⟨hx, hb, hml, hown, hts⟩ (c_X0_setAir l D cI cC a b1 b2 sp he air sn (g 0) (by omega)) (cwV 1 hts gX4_accept_X0_setAir rfl rfl rfl (by decide +kernel) ⟨Nat.le_of_ble_eq_true rfl, Nat.le_of_ble_eq_true rfl⟩) rfl hl.1 rfl (Nat.le_of_ble_eq_true rfl) dX4_accept_145 ⟨Nat.zero_le _, Nat.zero_le _⟩ hN hK hP hD hS hA rfl (q0 := 1) rfl [1] [0, 2, 3, 4, 5, 6, 7] rfl rfl ⟨rfl, rfl, by decide⟩ (fun r37 u H locs w38 hP hD hS => ?_)
    obtain ⟨rfl, h39, h40⟩ | ⟨rfl, h41⟩ : (r37 = (nI 1) ∧ 1 ≤ (g 0) ∧ (g 0) ≤ 9) ∨ (r37 = (nI 0) ∧ ((g 0) < 1 ∨ 9 < (g 0))) := w38
    · exact x_iret hx hb hr hlocks dX4_accept_148 rfl (post := fun (r : Int32) ((cl', nc', wd', nw', sp', he', air') : (Nat → Nat) × Nat × (Nat → Nat) × Nat × Nat × Nat × Nat) => (r = (nI 1) ∧ acceptM letter (g 0) (g 1) (g 2) (cl, nc, wd, nw, sp, he, air) = some (cl', nc', wd', nw', sp', he', air') ∧ nc' ≤ 4 ∧ nw' ≤ 8) ∨ (r = (nI 0) ∧ acceptM letter (g 0) (g 1) (g 2) (cl, nc, wd, nw, sp, he, air) = none ∧ nc' ≤ 4 ∧ nw' ≤ 8)) (w1 := fun ((cl', nc', wd', nw', sp', he', air') : (Nat → Nat) × Nat × (Nat → Nat) × Nat × Nat × Nat × Nat) => [(t0, eTxt tb tn), (tn, eRow tna kn), (tna, eArr cI 3 g), (a, eCan b1 b2 sp' he' air' sn), (b1, eRow c1 (3 * nc')), (c1, eArr cI 12 cl'), (b2, eRow c2 (3 * nw')), (c2, eArr cI 24 wd')]) (cl, nc, wd, nw, sp, he, g 0) (Or.inl ⟨rfl, (by unfold acceptM; dsimp only; rw [if_neg (by omega)]; rw [if_neg (by omega)]; rw [if_neg (by omega)]; rw [if_neg (by omega)]; rw [if_pos hL]; rw [if_pos (by omega)]), by omega, by omega⟩) hK (hP.sub [0, 5, 6, 7, 1, 2, 3, 4] rfl) (hD.sub [0, 5, 6, 7, 1, 2, 3, 4] rfl rfl) hS
    · exact x_iret hx hb hr hlocks dX4_accept_148 rfl (post := fun (r : Int32) ((cl', nc', wd', nw', sp', he', air') : (Nat → Nat) × Nat × (Nat → Nat) × Nat × Nat × Nat × Nat) => (r = (nI 1) ∧ acceptM letter (g 0) (g 1) (g 2) (cl, nc, wd, nw, sp, he, air) = some (cl', nc', wd', nw', sp', he', air') ∧ nc' ≤ 4 ∧ nw' ≤ 8) ∨ (r = (nI 0) ∧ acceptM letter (g 0) (g 1) (g 2) (cl, nc, wd, nw, sp, he, air) = none ∧ nc' ≤ 4 ∧ nw' ≤ 8)) (w1 := fun ((cl', nc', wd', nw', sp', he', air') : (Nat → Nat) × Nat × (Nat → Nat) × Nat × Nat × Nat × Nat) => [(t0, eTxt tb tn), (tn, eRow tna kn), (tna, eArr cI 3 g), (a, eCan b1 b2 sp' he' air' sn), (b1, eRow c1 (3 * nc')), (c1, eArr cI 12 cl'), (b2, eRow c2 (3 * nw')), (c2, eArr cI 24 wd')]) (cl, nc, wd, nw, sp, he, g 0) (Or.inr ⟨rfl, (by unfold acceptM; dsimp only; rw [if_neg (by omega)]; rw [if_neg (by omega)]; rw [if_neg (by omega)]; rw [if_neg (by omega)]; rw [if_pos hL]; rw [if_neg (by omega)]), by omega, by omega⟩) hK (hP.sub [0, 5, 6, 7, 1, 2, 3, 4] rfl) (hD.sub [0, 5, 6, 7, 1, 2, 3, 4] rfl rfl) hS
  · have hk4 : 1 ≤ kn := hk1.1
    refine lv_iload_n hx hb dX4_accept_0 rfl (lv_at hl 1 rfl) ?_
    refine lv_lookup (tgt := 149) hx hb dX4_accept_1 (by decide) (sw5_def (by omega) hL) (by decide) ?_
    refine lv_iconst (v := (nI 0)) hx hb dX4_accept_149 (by decide) ?_
    exact x_iret hx hb hr hlocks dX4_accept_150 rfl (post := fun (r : Int32) ((cl', nc', wd', nw', sp', he', air') : (Nat → Nat) × Nat × (Nat → Nat) × Nat × Nat × Nat × Nat) => (r = (nI 1) ∧ acceptM letter (g 0) (g 1) (g 2) (cl, nc, wd, nw, sp, he, air) = some (cl', nc', wd', nw', sp', he', air') ∧ nc' ≤ 4 ∧ nw' ≤ 8) ∨ (r = (nI 0) ∧ acceptM letter (g 0) (g 1) (g 2) (cl, nc, wd, nw, sp, he, air) = none ∧ nc' ≤ 4 ∧ nw' ≤ 8)) (w1 := fun ((cl', nc', wd', nw', sp', he', air') : (Nat → Nat) × Nat × (Nat → Nat) × Nat × Nat × Nat × Nat) => [(t0, eTxt tb tn), (tn, eRow tna kn), (tna, eArr cI 3 g), (a, eCan b1 b2 sp' he' air' sn), (b1, eRow c1 (3 * nc')), (c1, eArr cI 12 cl'), (b2, eRow c2 (3 * nw')), (c2, eArr cI 24 wd')]) (cl, nc, wd, nw, sp, he, air) (Or.inr ⟨rfl, (by unfold acceptM; dsimp only; rw [if_neg (by omega)]; rw [if_neg (by omega)]; rw [if_neg (by omega)]; rw [if_neg (by omega)]; rw [if_neg (by omega)]; skip), by omega, by omega⟩) hK hP hD hS

theorem itemM_none {B : Nat → Nat} {p : Nat} {d : Dr} {wt : Nat} (hwt : (if B p = 102 ∨ B p = 119 then 3 else 1) = wt) (h : numsM B wt (p + 1) [] = none) : itemM B p d = none := by
  unfold itemM; rw [hwt, h]
theorem acceptM_1 {letter x y z y' z' : Nat} {d : Dr} (h : ¬ (letter = 102 ∨ letter = 119)) : acceptM letter x y z d = acceptM letter x y' z' d := by
  unfold acceptM
  obtain ⟨cl, nc, wd, nw, sp, he, air⟩ := d
  dsimp only
  rw [if_neg (fun e => h (Or.inl e)), if_neg (fun e => h (Or.inr e)), if_neg (fun e => h (Or.inl e)), if_neg (fun e => h (Or.inr e))]
theorem itemM_acc {B : Nat → Nat} {p : Nat} {d : Dr} {wt pl : Nat} {acc : List Nat} {g : Nat → Nat} {r : Option Dr} (hwt : (if B p = 102 ∨ B p = 119 then 3 else 1) = wt) (hn : numsM B wt (p + 1) [] = some (acc, pl)) (hr : ∀ j, j < wt → g j = acc.getD j 0) (ha : acceptM (B p) (g 0) (g 1) (g 2) d = r) : itemM B p d = r.map (fun d' => (d', pl)) := by
  unfold itemM
  rw [hwt, hn]
  dsimp only
  congr 1
  by_cases h : B p = 102 ∨ B p = 119
  · rw [if_pos h] at hwt
    subst hwt
    rw [← hr 0 (by omega), ← hr 1 (by omega), ← hr 2 (by omega)]
    exact ha
  · rw [if_neg h] at hwt
    subst hwt
    rw [← hr 0 (by omega), ← ha]
    exact acceptM_1 h
theorem rep_app {g : Nat → Nat} {acc : List Nat} {i v : Nat} (hl : acc.length = i) (h : ∀ j, j < i → g j = acc.getD j 0) : ∀ j, j < i + 1 → upN g i v j = (acc ++ [v]).getD j 0 := by
  intro j hj
  by_cases hji : j = i
  · subst hji
    rw [upN_s]
    simp [List.getD_eq_getElem?_getD, ← hl]
  · rw [upN_n hji, h j (by omega)]
    have h2 : j < acc.length := by omega
    simp [List.getD_eq_getElem?_getD, h2, List.getElem?_append]
theorem upN_bd {g : Nat → Nat} {i v M : Nat} (h : ∀ j, g j < M) (hv : v < M) : ∀ j, upN g i v j < M := by
  intro j; unfold upN; split
  · exact hv
  · exact h j
theorem readM_in {B : Nat → Nat} {len k p : Nat} {d : Dr} (h : p < len) (h2 : itemM B p d = none) : readM B len (k + 1) p d = .inl p := by
  show (if p < len then _ else _) = _
  rw [if_pos h, h2]
theorem readM_go {B : Nat → Nat} {len k p p' : Nat} {d d' : Dr} (h : p < len) (h2 : itemM B p d = some (d', p')) : readM B len (k + 1) p d = readM B len k p' d' := by
  show (if p < len then _ else _) = _
  rw [if_pos h, h2]
theorem readM_end {B : Nat → Nat} {len k p : Nat} {d : Dr} (h : len ≤ p) : readM B len k p d = .inr d := by
  cases k with
  | zero => rfl
  | succ k => show (if p < len then _ else _) = _; rw [if_neg (by omega)]

set_option maxRecDepth 100000 in
set_option maxHeartbeats 4000000 in
theorem c_X4_readItem (l : Launch) (D : va_G) (cI cC : ClassId) (t0 : Nat) (tb : Nat) (tba : Nat) (tn : Nat) (tx : Nat → Nat) (len : Nat) (hlen : len ≤ 300) (tna : Nat) (g : Nat → Nat) (kn : Nat) (a : Nat) (b1 : Nat) (c1 : Nat) (b2 : Nat) (c2 : Nat) (cl : Nat → Nat) (nc : Nat) (wd : Nat → Nat) (nw : Nat) (sp : Nat) (he : Nat) (air : Nat) (sn : Nat) (p0 : Nat) (hp : p0 < len) (hB : okB tx len) (hnn : nc ≤ 4 ∧ nw ≤ 8) (hg0 : ∀ j, g j < 1000) (hk3 : kn ≤ 3) : mtI l D cI cC yX4_readItem wsX4_readItem ({ frames := 5, cells := 0, slots := 0, locals := 109 }) [.ref t0, .int (nI p0), .ref a] [(t0, eTxt tb tn), (tb, eRow tba len), (tba, eArr cI 300 tx), (tn, eRow tna kn), (tna, eArr cI 3 g), (a, eCan b1 b2 sp he air sn), (b1, eRow c1 (3 * nc)), (c1, eArr cI 12 cl), (b2, eRow c2 (3 * nw)), (c2, eArr cI 24 wd)] (fun (r : Int32) ((cl', nc', wd', nw', sp', he', air', pn, g', kn') : (Nat → Nat) × Nat × (Nat → Nat) × Nat × Nat × Nat × Nat × Nat × (Nat → Nat) × Nat) => (r = (nI pn) ∧ itemM (byM tx len) p0 (cl, nc, wd, nw, sp, he, air) = some ((cl', nc', wd', nw', sp', he', air'), pn) ∧ nc' ≤ 4 ∧ nw' ≤ 8 ∧ p0 < pn ∧ pn ≤ p0 + 10 ∧ (∀ j, g' j < 1000) ∧ kn' ≤ 3) ∨ (r = (iI (-4)) ∧ itemM (byM tx len) p0 (cl, nc, wd, nw, sp, he, air) = none ∧ nc' ≤ 4 ∧ nw' ≤ 8 ∧ (∀ j, g' j < 1000) ∧ kn' ≤ 3)) (fun ((cl', nc', wd', nw', sp', he', air', pn, g', kn') : (Nat → Nat) × Nat × (Nat → Nat) × Nat × Nat × Nat × Nat × Nat × (Nat → Nat) × Nat) => [(t0, eTxt tb tn), (tb, eRow tba len), (tba, eArr cI 300 tx), (tn, eRow tna kn'), (tna, eArr cI 3 g'), (a, eCan b1 b2 sp' he' air' sn), (b1, eRow c1 (3 * nc')), (c1, eArr cI 12 cl'), (b2, eRow c2 (3 * nw')), (c2, eArr cI 24 wd')]) := by
  refine mtI_of (cc := cX4_readItem) (maxL := 8) (ret := (some .int)) (by decide) rfl rfl ?_
  intro p e s m below meth c A hx hb hml hr hts hown hlocks hN hA hK hP hD hS ls hl
  have hown : s.vm.findClass RX4 = some m.cls := hown
  have hl : lv_has ls 8 [(0, .ref t0), (1, .int (nI p0)), (2, .ref a)] := hl
  obtain ⟨H, hHe⟩ : ∃ H, H = s.heap := ⟨_, rfl⟩
  rw [← hHe] at hP ⊢
  have hS : va_S A s.heap H [] := by rw [hHe]; exact va_S.rf
  have fl14 := hts (.fieldLink RX4 14 "EchoPaysRent$Text" "bytes" "LEchoPaysRent$Row;") (by decide +kernel)
  have inX4 : ∀ w ∈ wsX40, w ∈ wsX4_readItem := by decide +kernel
  have fl20 := hts (.fieldLink RX4 20 "EchoPaysRent$Text" "numbers" "LEchoPaysRent$Row;") (by decide +kernel)
  refine lv_aload_n hx hb dX4_readItem_0 rfl (lv_at hl 0 rfl) ?_
  refine va_get (D := D) (ci := 4) (v := .ref tb) (C := RX4) (T := TX4) (N := 2) hx hb hts inX4 hown hK hP 0 rfl rfl 0 (by decide) fl14 (fun _ h9 => h9) rfl dX4_readItem_1 ?_
  refine lv_iload_n hx hb dX4_readItem_4 rfl (lv_at hl 1 rfl) ?_
  refine k_V (q := (RX1, TX1, 2)) (ci := 1) (As := [.int (nI p0)]) (wr := [(t0, eTxt tb tn), (tn, eRow tna kn), (tna, eArr cI 3 g), (a, eCan b1 b2 sp he air sn), (b1, eRow c1 (3 * nc)), (c1, eArr cI 12 cl), (b2, eRow c2 (3 * nw)), (c2, eArr cI 24 wd)]) ⟨hx, hb, hml, hown, hts⟩ (c_X1_at_by l D cI cC tb tba 300 tx len p0 (by omega) (by omega) (by omega)) (cwV 1 hts gX4_readItem_X1_at rfl rfl rfl (by decide +kernel) ⟨Nat.le_of_ble_eq_true rfl, Nat.le_of_ble_eq_true rfl⟩) rfl hl.1 rfl (Nat.le_of_ble_eq_true rfl) dX4_readItem_5 ⟨Nat.zero_le _, Nat.zero_le _⟩ hN hK hP hD hS hA rfl (q0 := 1) rfl [1, 2] [0, 3, 4, 5, 6, 7, 8, 9] rfl rfl ⟨rfl, rfl, by decide⟩ (fun r1 u H locs w2 hP hD hS => ?_)
  obtain rfl : r1 = (nI (byM tx len p0)) := w2
  refine lv_istore_n (lv' := [(3, .int (nI (byM tx len p0))), (0, .ref t0), (1, .int (nI p0)), (2, .ref a)]) hx hb dX4_readItem_8 rfl hl (by decide) rfl (fun ls hl => ?_)
  have join26 : ∀ (wt : Nat), ((if byM tx len p0 = 102 ∨ byM tx len p0 = 119 then 3 else 1) = wt) → (1 ≤ wt) → (wt ≤ 3) → ∀ (H : Heap) (locs : List Loc), va_P D vwCl [(t0, eTxt tb tn), (tb, eRow tba len), (tba, eArr cI 300 tx), (tn, eRow tna kn), (tna, eArr cI 3 g), (a, eCan b1 b2 sp he air sn), (b1, eRow c1 (3 * nc)), (c1, eArr cI 12 cl), (b2, eRow c2 (3 * nw)), (c2, eArr cI 24 wd)] H → va_D A [(t0, eTxt tb tn), (tb, eRow tba len), (tba, eArr cI 300 tx), (tn, eRow tna kn), (tna, eArr cI 3 g), (a, eCan b1 b2 sp he air sn), (b1, eRow c1 (3 * nc)), (c1, eArr cI 12 cl), (b2, eRow c2 (3 * nw)), (c2, eArr cI 24 wd)] → va_S A s.heap H locs → ∀ ls : Array Slot, lv_has ls 8 [(3, .int (nI (byM tx len p0))), (0, .ref t0), (1, .int (nI p0)), (2, .ref a)] → W p l e (headSpec wsX4_readItem ({ frames := 5, cells := 0, slots := 0, locals := 109 })).room s m ([.ref t0, .int (nI p0), .ref a] : List Value).toArray below meth c H locs 0 0 (MQ below (va_Qi (fun (r : Int32) ((cl', nc', wd', nw', sp', he', air', pn, g', kn') : (Nat → Nat) × Nat × (Nat → Nat) × Nat × Nat × Nat × Nat × Nat × (Nat → Nat) × Nat) => (r = (nI pn) ∧ itemM (byM tx len) p0 (cl, nc, wd, nw, sp, he, air) = some ((cl', nc', wd', nw', sp', he', air'), pn) ∧ nc' ≤ 4 ∧ nw' ≤ 8 ∧ p0 < pn ∧ pn ≤ p0 + 10 ∧ (∀ j, g' j < 1000) ∧ kn' ≤ 3) ∨ (r = (iI (-4)) ∧ itemM (byM tx len) p0 (cl, nc, wd, nw, sp, he, air) = none ∧ nc' ≤ 4 ∧ nw' ≤ 8 ∧ (∀ j, g' j < 1000) ∧ kn' ≤ 3)) (ctB D cI cC (fun ((cl', nc', wd', nw', sp', he', air', pn, g', kn') : (Nat → Nat) × Nat × (Nat → Nat) × Nat × Nat × Nat × Nat × Nat × (Nat → Nat) × Nat) => [(t0, eTxt tb tn), (tb, eRow tba len), (tba, eArr cI 300 tx), (tn, eRow tna kn'), (tna, eArr cI 3 g'), (a, eCan b1 b2 sp' he' air' sn), (b1, eRow c1 (3 * nc')), (c1, eArr cI 12 cl'), (b2, eRow c2 (3 * nw')), (c2, eArr cI 24 wd')]) A) A) ([.ref t0, .int (nI p0), .ref a] : List Value).toArray s 0 0 A) (F0 m 26 ls [.int (nI wt)]) := by
    intro wt hwt hi3 hi4 H locs hP hD hS ls hl
    refine lv_istore (lv' := [(4, .int (nI wt)), (3, .int (nI (byM tx len p0))), (0, .ref t0), (1, .int (nI p0)), (2, .ref a)]) hx hb dX4_readItem_26 hl (by decide) rfl (fun ls hl => ?_)
    refine lv_iload_n hx hb dX4_readItem_28 rfl (lv_at hl 3 rfl) ?_
    refine lv_iconst (v := (nI 1)) hx hb dX4_readItem_29 (by decide) ?_
    refine x_iadd hx hb dX4_readItem_30 ?_
    refine lv_istore (lv' := [(5, .int (nI (p0 + 1))), (4, .int (nI wt)), (3, .int (nI (byM tx len p0))), (0, .ref t0), (1, .int (nI p0)), (2, .ref a)]) hx hb dX4_readItem_31 hl (by decide) rfl (fun ls hl => ?_)
    refine lv_aload_n hx hb dX4_readItem_33 rfl (lv_at hl 3 rfl) ?_
    refine va_get (D := D) (ci := 4) (v := .ref tn) (C := RX4) (T := TX4) (N := 2) hx hb hts inX4 hown hK hP 0 rfl rfl 1 (by decide) fl20 (fun _ h9 => h9) rfl dX4_readItem_34 ?_
    refine k_Vv (q := (RX1, TX1, 2)) (ci := 1) (As := []) (wr := [(t0, eTxt tb tn), (tb, eRow tba len), (tba, eArr cI 300 tx), (a, eCan b1 b2 sp he air sn), (b1, eRow c1 (3 * nc)), (c1, eArr cI 12 cl), (b2, eRow c2 (3 * nw)), (c2, eArr cI 24 wd)]) ⟨hx, hb, hml, hown, hts⟩ (c_X1_drop l D cI cC tn tna 3 g kn) (cwV 0 hts gX4_readItem_X1_drop rfl rfl rfl (by decide +kernel) ⟨Nat.le_of_ble_eq_true rfl, Nat.le_of_ble_eq_true rfl⟩) rfl hl.1 rfl (Nat.le_of_ble_eq_true rfl) dX4_readItem_37 ⟨Nat.zero_le _, Nat.zero_le _⟩ hN hK hP hD hS hA rfl (q0 := 3) rfl [3, 4] [0, 1, 2, 5, 6, 7, 8, 9] rfl rfl ⟨rfl, rfl, by decide⟩ (fun u H locs w6 hP hD hS => ?_)
    refine lv_iconst (v := (nI 0)) hx hb dX4_readItem_40 (by decide) ?_
    refine lv_istore (lv' := [(6, .int (nI 0)), (5, .int (nI (p0 + 1))), (4, .int (nI wt)), (3, .int (nI (byM tx len p0))), (0, .ref t0), (1, .int (nI p0)), (2, .ref a)]) hx hb dX4_readItem_41 hl (by decide) rfl (fun ls hl => ?_)
    have loop43 : ∀ (nn43 : Nat) (i : Nat) (pl : Nat) (acc : List Nat) (g' : Nat → Nat), wt - i < nn43 → (i ≤ wt) → (acc.length = i) → (∀ j, j < i → g' j = acc.getD j 0) → (∀ j, g' j < 1000) → (numsM (byM tx len) wt (p0 + 1) [] = numsM (byM tx len) (wt - i) pl acc) → (pl ≤ p0 + 1 + 3 * i) → (p0 < pl) → ∀ (H : Heap) (locs : List Loc), va_P D vwCl [(t0, eTxt tb tn), (tb, eRow tba len), (tba, eArr cI 300 tx), (tn, eRow tna i), (tna, eArr cI 3 g'), (a, eCan b1 b2 sp he air sn), (b1, eRow c1 (3 * nc)), (c1, eArr cI 12 cl), (b2, eRow c2 (3 * nw)), (c2, eArr cI 24 wd)] H → va_D A [(t0, eTxt tb tn), (tb, eRow tba len), (tba, eArr cI 300 tx), (tn, eRow tna i), (tna, eArr cI 3 g'), (a, eCan b1 b2 sp he air sn), (b1, eRow c1 (3 * nc)), (c1, eArr cI 12 cl), (b2, eRow c2 (3 * nw)), (c2, eArr cI 24 wd)] → va_S A s.heap H locs → ∀ ls : Array Slot, lv_has ls 8 [(6, .int (nI i)), (5, .int (nI pl)), (4, .int (nI wt)), (3, .int (nI (byM tx len p0))), (0, .ref t0), (1, .int (nI p0)), (2, .ref a)] → W p l e (headSpec wsX4_readItem ({ frames := 5, cells := 0, slots := 0, locals := 109 })).room s m ([.ref t0, .int (nI p0), .ref a] : List Value).toArray below meth c H locs 0 0 (MQ below (va_Qi (fun (r : Int32) ((cl', nc', wd', nw', sp', he', air', pn, g', kn') : (Nat → Nat) × Nat × (Nat → Nat) × Nat × Nat × Nat × Nat × Nat × (Nat → Nat) × Nat) => (r = (nI pn) ∧ itemM (byM tx len) p0 (cl, nc, wd, nw, sp, he, air) = some ((cl', nc', wd', nw', sp', he', air'), pn) ∧ nc' ≤ 4 ∧ nw' ≤ 8 ∧ p0 < pn ∧ pn ≤ p0 + 10 ∧ (∀ j, g' j < 1000) ∧ kn' ≤ 3) ∨ (r = (iI (-4)) ∧ itemM (byM tx len) p0 (cl, nc, wd, nw, sp, he, air) = none ∧ nc' ≤ 4 ∧ nw' ≤ 8 ∧ (∀ j, g' j < 1000) ∧ kn' ≤ 3)) (ctB D cI cC (fun ((cl', nc', wd', nw', sp', he', air', pn, g', kn') : (Nat → Nat) × Nat × (Nat → Nat) × Nat × Nat × Nat × Nat × Nat × (Nat → Nat) × Nat) => [(t0, eTxt tb tn), (tb, eRow tba len), (tba, eArr cI 300 tx), (tn, eRow tna kn'), (tna, eArr cI 3 g'), (a, eCan b1 b2 sp' he' air' sn), (b1, eRow c1 (3 * nc')), (c1, eArr cI 12 cl'), (b2, eRow c2 (3 * nw')), (c2, eArr cI 24 wd')]) A) A) ([.ref t0, .int (nI p0), .ref a] : List Value).toArray s 0 0 A) (F0 m 43 ls []) := by
      intro nn43
      induction nn43 with
      | zero =>
        intro i pl acc g' hm7
        exact absurd hm7 (Nat.not_lt_zero _)
      | succ nn43 ih43 =>
        intro i pl acc g' hm7 hi8 hlen2 hrep2 hgb hnum hi9 hi10 H locs hP hD hS ls hl
        refine lv_iload hx hb dX4_readItem_43 (lv_at hl 0 rfl) ?_
        refine lv_iload hx hb dX4_readItem_45 (lv_at hl 2 rfl) ?_
        refine x_icmp_ge (tgt := 129) hx hb dX4_readItem_47 (by decide) (by omega) (by omega) (fun h11 => ?_) (fun h11 => ?_)
        · refine lv_aload_n hx hb dX4_readItem_129 rfl (lv_at hl 4 rfl) ?_
          have hlB := hB p0
          refine lv_iload_n hx hb dX4_readItem_130 rfl (lv_at hl 3 rfl) ?_
          refine lv_aload_n hx hb dX4_readItem_131 rfl (lv_at hl 6 rfl) ?_
          refine k_V (q := (RX4, TX4, 2)) (ci := 4) (As := [.int (nI (byM tx len p0)), .ref a]) (wr := [(tb, eRow tba len), (tba, eArr cI 300 tx)]) ⟨hx, hb, hml, hown, hts⟩ (c_X4_accept l D cI cC t0 tb tn tna g' i a b1 c1 b2 c2 cl nc wd nw sp he air sn (byM tx len p0) (by omega) (by omega) ⟨hgb 0, hgb 1, hgb 2⟩ (by omega) (fun hh => by rw [if_pos hh] at hwt; omega)) (cwV 2 hts gX4_readItem_X4_accept rfl rfl rfl (by decide +kernel) ⟨Nat.le_of_ble_eq_true rfl, Nat.le_of_ble_eq_true rfl⟩) rfl hl.1 rfl (Nat.le_of_ble_eq_true rfl) dX4_readItem_132 ⟨Nat.zero_le _, Nat.zero_le _⟩ hN hK hP hD hS hA rfl (q0 := 0) rfl [0, 3, 4, 5, 6, 7, 8, 9] [1, 2] rfl rfl ⟨rfl, rfl, by decide⟩ (fun r12 u H locs w20 hP hD hS => ?_)
          obtain ⟨cl'13, nc'14, wd'15, nw'16, sp'17, he'18, air'19⟩ := u
          obtain ⟨rfl, h21, h22, h23⟩ | ⟨rfl, h24, h25, h26⟩ : (r12 = (nI 1) ∧ acceptM (byM tx len p0) (g' 0) (g' 1) (g' 2) (cl, nc, wd, nw, sp, he, air) = some (cl'13, nc'14, wd'15, nw'16, sp'17, he'18, air'19) ∧ nc'14 ≤ 4 ∧ nw'16 ≤ 8) ∨ (r12 = (nI 0) ∧ acceptM (byM tx len p0) (g' 0) (g' 1) (g' 2) (cl, nc, wd, nw, sp, he, air) = none ∧ nc'14 ≤ 4 ∧ nw'16 ≤ 8) := w20
          · refine x_if_eq (tgt := 143) hx hb dX4_readItem_135 (by decide) (by omega) (fun h27 => False.elim (by omega)) (fun h27 => ?_)
            refine lv_iload hx hb dX4_readItem_138 (lv_at hl 1 rfl) ?_
            refine lv_goto (tgt := 145) hx hb dX4_readItem_140 (by decide) ?_
            exact x_iret hx hb hr hlocks dX4_readItem_145 rfl (post := fun (r : Int32) ((cl', nc', wd', nw', sp', he', air', pn, g', kn') : (Nat → Nat) × Nat × (Nat → Nat) × Nat × Nat × Nat × Nat × Nat × (Nat → Nat) × Nat) => (r = (nI pn) ∧ itemM (byM tx len) p0 (cl, nc, wd, nw, sp, he, air) = some ((cl', nc', wd', nw', sp', he', air'), pn) ∧ nc' ≤ 4 ∧ nw' ≤ 8 ∧ p0 < pn ∧ pn ≤ p0 + 10 ∧ (∀ j, g' j < 1000) ∧ kn' ≤ 3) ∨ (r = (iI (-4)) ∧ itemM (byM tx len) p0 (cl, nc, wd, nw, sp, he, air) = none ∧ nc' ≤ 4 ∧ nw' ≤ 8 ∧ (∀ j, g' j < 1000) ∧ kn' ≤ 3)) (w1 := fun ((cl', nc', wd', nw', sp', he', air', pn, g', kn') : (Nat → Nat) × Nat × (Nat → Nat) × Nat × Nat × Nat × Nat × Nat × (Nat → Nat) × Nat) => [(t0, eTxt tb tn), (tb, eRow tba len), (tba, eArr cI 300 tx), (tn, eRow tna kn'), (tna, eArr cI 3 g'), (a, eCan b1 b2 sp' he' air' sn), (b1, eRow c1 (3 * nc')), (c1, eArr cI 12 cl'), (b2, eRow c2 (3 * nw')), (c2, eArr cI 24 wd')]) (cl'13, nc'14, wd'15, nw'16, sp'17, he'18, air'19, pl, g', i) (Or.inl ⟨rfl, itemM_acc hwt (by rw [hnum, show wt - i = 0 from by omega]; rfl) (fun j hj => hrep2 j (by omega)) h21, by omega, by omega, by omega, by omega, by assumption, by omega⟩) hK (hP.sub [2, 0, 1, 3, 4, 5, 6, 7, 8, 9] rfl) (hD.sub [2, 0, 1, 3, 4, 5, 6, 7, 8, 9] rfl rfl) hS
          · refine x_if_eq (tgt := 143) hx hb dX4_readItem_135 (by decide) (by omega) (fun h28 => ?_) (fun h28 => False.elim (by omega))
            refine lv_bipush (v := (iI (-4))) hx hb dX4_readItem_143 (by decide) ?_
            exact x_iret hx hb hr hlocks dX4_readItem_145 rfl (post := fun (r : Int32) ((cl', nc', wd', nw', sp', he', air', pn, g', kn') : (Nat → Nat) × Nat × (Nat → Nat) × Nat × Nat × Nat × Nat × Nat × (Nat → Nat) × Nat) => (r = (nI pn) ∧ itemM (byM tx len) p0 (cl, nc, wd, nw, sp, he, air) = some ((cl', nc', wd', nw', sp', he', air'), pn) ∧ nc' ≤ 4 ∧ nw' ≤ 8 ∧ p0 < pn ∧ pn ≤ p0 + 10 ∧ (∀ j, g' j < 1000) ∧ kn' ≤ 3) ∨ (r = (iI (-4)) ∧ itemM (byM tx len) p0 (cl, nc, wd, nw, sp, he, air) = none ∧ nc' ≤ 4 ∧ nw' ≤ 8 ∧ (∀ j, g' j < 1000) ∧ kn' ≤ 3)) (w1 := fun ((cl', nc', wd', nw', sp', he', air', pn, g', kn') : (Nat → Nat) × Nat × (Nat → Nat) × Nat × Nat × Nat × Nat × Nat × (Nat → Nat) × Nat) => [(t0, eTxt tb tn), (tb, eRow tba len), (tba, eArr cI 300 tx), (tn, eRow tna kn'), (tna, eArr cI 3 g'), (a, eCan b1 b2 sp' he' air' sn), (b1, eRow c1 (3 * nc')), (c1, eArr cI 12 cl'), (b2, eRow c2 (3 * nw')), (c2, eArr cI 24 wd')]) (cl'13, nc'14, wd'15, nw'16, sp'17, he'18, air'19, 0, g', i) (Or.inr ⟨rfl, itemM_acc hwt (by rw [hnum, show wt - i = 0 from by omega]; rfl) (fun j hj => hrep2 j (by omega)) h24, by omega, by omega, by assumption, by omega⟩) hK (hP.sub [2, 0, 1, 3, 4, 5, 6, 7, 8, 9] rfl) (hD.sub [2, 0, 1, 3, 4, 5, 6, 7, 8, 9] rfl rfl) hS
        · refine lv_aload_n hx hb dX4_readItem_50 rfl (lv_at hl 4 rfl) ?_
          refine lv_iload hx hb dX4_readItem_51 (lv_at hl 1 rfl) ?_
          refine k_V (q := (RX4, TX4, 2)) (ci := 4) (As := [.int (nI pl)]) (wr := [(tn, eRow tna i), (tna, eArr cI 3 g'), (a, eCan b1 b2 sp he air sn), (b1, eRow c1 (3 * nc)), (c1, eArr cI 12 cl), (b2, eRow c2 (3 * nw)), (c2, eArr cI 24 wd)]) ⟨hx, hb, hml, hown, hts⟩ (c_X4_figuresAt l D cI cC t0 tb tba tn tx len (by omega) pl (by omega) hB) (cwV 1 hts gX4_readItem_X4_figuresAt rfl rfl rfl (by decide +kernel) ⟨Nat.le_of_ble_eq_true rfl, Nat.le_of_ble_eq_true rfl⟩) rfl hl.1 rfl (Nat.le_of_ble_eq_true rfl) dX4_readItem_53 ⟨Nat.zero_le _, Nat.zero_le _⟩ hN hK hP hD hS hA rfl (q0 := 0) rfl [0, 1, 2] [3, 4, 5, 6, 7, 8, 9] rfl rfl ⟨rfl, rfl, by decide⟩ (fun r29 u H locs w30 hP hD hS => ?_)
          obtain ⟨rfl, h31⟩ | ⟨rfl, h32, h33⟩ | ⟨rfl, h34, h35⟩ : (r29 = (nI 0) ∧ figB (byM tx len pl) = false) ∨ (r29 = (nI 1) ∧ figB (byM tx len pl) = true ∧ figB (byM tx len (pl + 1)) = false) ∨ (r29 = (nI 2) ∧ figB (byM tx len pl) = true ∧ figB (byM tx len (pl + 1)) = true) := w30
          · refine lv_istore (lv' := [(7, .int (nI 0)), (6, .int (nI i)), (5, .int (nI pl)), (4, .int (nI wt)), (3, .int (nI (byM tx len p0))), (0, .ref t0), (1, .int (nI p0)), (2, .ref a)]) hx hb dX4_readItem_56 hl (by decide) rfl (fun ls hl => ?_)
            refine lv_iload hx hb dX4_readItem_58 (lv_at hl 0 rfl) ?_
            refine x_if_ne (tgt := 66) hx hb dX4_readItem_60 (by decide) (by omega) (fun h36 => False.elim (by omega)) (fun h36 => ?_)
            refine lv_bipush (v := (iI (-4))) hx hb dX4_readItem_63 (by decide) ?_
            exact x_iret hx hb hr hlocks dX4_readItem_65 rfl (post := fun (r : Int32) ((cl', nc', wd', nw', sp', he', air', pn, g', kn') : (Nat → Nat) × Nat × (Nat → Nat) × Nat × Nat × Nat × Nat × Nat × (Nat → Nat) × Nat) => (r = (nI pn) ∧ itemM (byM tx len) p0 (cl, nc, wd, nw, sp, he, air) = some ((cl', nc', wd', nw', sp', he', air'), pn) ∧ nc' ≤ 4 ∧ nw' ≤ 8 ∧ p0 < pn ∧ pn ≤ p0 + 10 ∧ (∀ j, g' j < 1000) ∧ kn' ≤ 3) ∨ (r = (iI (-4)) ∧ itemM (byM tx len) p0 (cl, nc, wd, nw, sp, he, air) = none ∧ nc' ≤ 4 ∧ nw' ≤ 8 ∧ (∀ j, g' j < 1000) ∧ kn' ≤ 3)) (w1 := fun ((cl', nc', wd', nw', sp', he', air', pn, g', kn') : (Nat → Nat) × Nat × (Nat → Nat) × Nat × Nat × Nat × Nat × Nat × (Nat → Nat) × Nat) => [(t0, eTxt tb tn), (tb, eRow tba len), (tba, eArr cI 300 tx), (tn, eRow tna kn'), (tna, eArr cI 3 g'), (a, eCan b1 b2 sp' he' air' sn), (b1, eRow c1 (3 * nc')), (c1, eArr cI 12 cl'), (b2, eRow c2 (3 * nw')), (c2, eArr cI 24 wd')]) (cl, nc, wd, nw, sp, he, air, 0, g', i) (Or.inr ⟨rfl, itemM_none hwt (by rw [hnum, show wt - i = (wt - (i + 1)) + 1 from by omega]; exact numsM_none (numM_no h31)), by omega, by omega, hgb, by omega⟩) hK (hP.sub [7, 8, 9, 0, 1, 2, 3, 4, 5, 6] rfl) (hD.sub [7, 8, 9, 0, 1, 2, 3, 4, 5, 6] rfl rfl) hS
          · have hq1 := figB_1 h32
            refine lv_istore (lv' := [(7, .int (nI 1)), (6, .int (nI i)), (5, .int (nI pl)), (4, .int (nI wt)), (3, .int (nI (byM tx len p0))), (0, .ref t0), (1, .int (nI p0)), (2, .ref a)]) hx hb dX4_readItem_56 hl (by decide) rfl (fun ls hl => ?_)
            refine lv_iload hx hb dX4_readItem_58 (lv_at hl 0 rfl) ?_
            refine x_if_ne (tgt := 66) hx hb dX4_readItem_60 (by decide) (by omega) (fun h37 => ?_) (fun h37 => False.elim (by omega))
            refine lv_aload_n hx hb dX4_readItem_66 rfl (lv_at hl 5 rfl) ?_
            refine va_get (D := D) (ci := 4) (v := .ref tn) (C := RX4) (T := TX4) (N := 2) hx hb hts inX4 hown hK hP 7 rfl rfl 1 (by decide) fl20 (fun _ h9 => h9) rfl dX4_readItem_67 ?_
            refine lv_aload_n hx hb dX4_readItem_70 rfl (lv_at hl 5 rfl) ?_
            refine lv_iload hx hb dX4_readItem_71 (lv_at hl 2 rfl) ?_
            refine lv_iload hx hb dX4_readItem_73 (lv_at hl 0 rfl) ?_
            refine k_V (q := (RX4, TX4, 2)) (ci := 4) (As := [.int (nI pl), .int (nI 1)]) (wr := [(tn, eRow tna i), (tna, eArr cI 3 g'), (a, eCan b1 b2 sp he air sn), (b1, eRow c1 (3 * nc)), (c1, eArr cI 12 cl), (b2, eRow c2 (3 * nw)), (c2, eArr cI 24 wd)]) ⟨hx, hb, hml, hown, hts⟩ (c_X4_numberAt_one l D cI cC t0 tb tba tn tx len (by omega) pl (by omega) hB hq1) (cwV 2 hts gX4_readItem_X4_numberAt rfl rfl rfl (by decide +kernel) ⟨Nat.le_of_ble_eq_true rfl, Nat.le_of_ble_eq_true rfl⟩) rfl hl.1 rfl (Nat.le_of_ble_eq_true rfl) dX4_readItem_75 ⟨Nat.zero_le _, Nat.zero_le _⟩ hN hK hP hD hS hA rfl (q0 := 7) rfl [7, 8, 9] [0, 1, 2, 3, 4, 5, 6] rfl rfl ⟨rfl, rfl, by decide⟩ (fun r38 u H locs w39 hP hD hS => ?_)
            obtain rfl : r38 = (nI (byM tx len pl - 48)) := w39
            refine k_V (q := (RX1, TX1, 2)) (ci := 1) (As := [.int (nI (byM tx len pl - 48))]) (wr := [(a, eCan b1 b2 sp he air sn), (b1, eRow c1 (3 * nc)), (c1, eArr cI 12 cl), (b2, eRow c2 (3 * nw)), (c2, eArr cI 24 wd), (t0, eTxt tb tn), (tb, eRow tba len), (tba, eArr cI 300 tx)]) ⟨hx, hb, hml, hown, hts⟩ (c_X1_add_lt l D cI cC tn tna 3 g' i (byM tx len pl - 48) (by omega) (by omega)) (cwV 1 hts gX4_readItem_X1_add rfl rfl rfl (by decide +kernel) ⟨Nat.le_of_ble_eq_true rfl, Nat.le_of_ble_eq_true rfl⟩) rfl hl.1 rfl (Nat.le_of_ble_eq_true rfl) dX4_readItem_78 ⟨Nat.zero_le _, Nat.zero_le _⟩ hN hK hP hD hS hA rfl (q0 := 0) rfl [0, 1] [2, 3, 4, 5, 6, 7, 8, 9] rfl rfl ⟨rfl, rfl, by decide⟩ (fun r40 u H locs w41 hP hD hS => ?_)
            obtain rfl : r40 = (nI 1) := w41
            refine lv_pop hx hb dX4_readItem_81 rfl ?_
            refine lv_iload hx hb dX4_readItem_82 (lv_at hl 2 rfl) ?_
            refine lv_iload hx hb dX4_readItem_84 (lv_at hl 0 rfl) ?_
            refine x_iadd hx hb dX4_readItem_86 ?_
            refine lv_istore (lv' := [(5, .int (nI (pl + 1))), (7, .int (nI 1)), (6, .int (nI i)), (4, .int (nI wt)), (3, .int (nI (byM tx len p0))), (0, .ref t0), (1, .int (nI p0)), (2, .ref a)]) hx hb dX4_readItem_87 hl (by decide) rfl (fun ls hl => ?_)
            refine lv_aload_n hx hb dX4_readItem_89 rfl (lv_at hl 5 rfl) ?_
            refine va_get (D := D) (ci := 4) (v := .ref tb) (C := RX4) (T := TX4) (N := 2) hx hb hts inX4 hown hK hP 5 rfl rfl 0 (by decide) fl14 (fun _ h9 => h9) rfl dX4_readItem_90 ?_
            refine lv_iload hx hb dX4_readItem_93 (lv_at hl 0 rfl) ?_
            refine k_V (q := (RX1, TX1, 2)) (ci := 1) (As := [.int (nI (pl + 1))]) (wr := [(a, eCan b1 b2 sp he air sn), (b1, eRow c1 (3 * nc)), (c1, eArr cI 12 cl), (b2, eRow c2 (3 * nw)), (c2, eArr cI 24 wd), (t0, eTxt tb tn), (tn, eRow tna (i + 1)), (tna, eArr cI 3 (upN g' i (byM tx len pl - 48)))]) ⟨hx, hb, hml, hown, hts⟩ (c_X1_at_by l D cI cC tb tba 300 tx len (pl + 1) (by omega) (by omega) (by omega)) (cwV 1 hts gX4_readItem_X1_at rfl rfl rfl (by decide +kernel) ⟨Nat.le_of_ble_eq_true rfl, Nat.le_of_ble_eq_true rfl⟩) rfl hl.1 rfl (Nat.le_of_ble_eq_true rfl) dX4_readItem_95 ⟨Nat.zero_le _, Nat.zero_le _⟩ hN hK hP hD hS hA rfl (q0 := 6) rfl [6, 7] [0, 1, 2, 3, 4, 5, 8, 9] rfl rfl ⟨rfl, rfl, by decide⟩ (fun r42 u H locs w43 hP hD hS => ?_)
            obtain rfl : r42 = (nI (byM tx len (pl + 1))) := w43
            have hbq := hB (pl + 1)
            refine lv_iload hx hb dX4_readItem_98 (lv_at hl 2 rfl) ?_
            refine lv_iload hx hb dX4_readItem_100 (lv_at hl 3 rfl) ?_
            refine lv_iconst (v := (nI 1)) hx hb dX4_readItem_102 (by decide) ?_
            refine x_isub hx hb dX4_readItem_103 (by omega) ?_
            refine x_icmp_ge (tgt := 112) hx hb dX4_readItem_104 (by decide) (by omega) (by omega) (fun h44 => ?_) (fun h44 => ?_)
            · refine lv_bipush (v := (nI 59)) hx hb dX4_readItem_112 (by decide) ?_
              refine x_icmp_eq (tgt := 120) hx hb dX4_readItem_114 (by decide) (by omega) (by omega) (fun h45 => ?_) (fun h45 => ?_)
              · refine lv_iinc (v := (nI (pl + 1 + 1))) (lv' := [(5, .int (nI (pl + 1 + 1))), (7, .int (nI 1)), (6, .int (nI i)), (4, .int (nI wt)), (3, .int (nI (byM tx len p0))), (0, .ref t0), (1, .int (nI p0)), (2, .ref a)]) hx hb dX4_readItem_120 hl (k := 0) rfl (nI_inc _ 1) (by decide) rfl (fun ls hl => ?_)
                refine lv_iinc (v := (nI (i + 1))) (lv' := [(6, .int (nI (i + 1))), (5, .int (nI (pl + 1 + 1))), (7, .int (nI 1)), (4, .int (nI wt)), (3, .int (nI (byM tx len p0))), (0, .ref t0), (1, .int (nI p0)), (2, .ref a)]) hx hb dX4_readItem_123 hl (k := 2) rfl (nI_inc _ 1) (by decide) rfl (fun ls hl => ?_)
                refine lv_goto (tgt := 43) hx hb dX4_readItem_126 (by decide) ?_
                exact ih43 (i + 1) (pl + 1 + 1) (acc ++ [byM tx len pl - 48]) (upN g' i (byM tx len pl - 48)) (by omega) (by omega) (by rw [List.length_append, hlen2]; rfl) (rep_app hlen2 hrep2) (upN_bd hgb (by omega)) (by rw [hnum, show wt - i = (wt - (i + 1)) + 1 from by omega]; exact numsM_some (by rw [numM_1 h32 h33]; exact if_pos (by split <;> omega))) (by omega) (by omega) _ _ (hP.sub [5, 8, 9, 6, 7, 0, 1, 2, 3, 4] rfl) (hD.sub [5, 8, 9, 6, 7, 0, 1, 2, 3, 4] rfl rfl) hS _ (lv_sub hl [0, 1, 3, 4, 5, 6, 7] rfl)
              · refine lv_bipush (v := (iI (-4))) hx hb dX4_readItem_117 (by decide) ?_
                exact x_iret hx hb hr hlocks dX4_readItem_119 rfl (post := fun (r : Int32) ((cl', nc', wd', nw', sp', he', air', pn, g', kn') : (Nat → Nat) × Nat × (Nat → Nat) × Nat × Nat × Nat × Nat × Nat × (Nat → Nat) × Nat) => (r = (nI pn) ∧ itemM (byM tx len) p0 (cl, nc, wd, nw, sp, he, air) = some ((cl', nc', wd', nw', sp', he', air'), pn) ∧ nc' ≤ 4 ∧ nw' ≤ 8 ∧ p0 < pn ∧ pn ≤ p0 + 10 ∧ (∀ j, g' j < 1000) ∧ kn' ≤ 3) ∨ (r = (iI (-4)) ∧ itemM (byM tx len) p0 (cl, nc, wd, nw, sp, he, air) = none ∧ nc' ≤ 4 ∧ nw' ≤ 8 ∧ (∀ j, g' j < 1000) ∧ kn' ≤ 3)) (w1 := fun ((cl', nc', wd', nw', sp', he', air', pn, g', kn') : (Nat → Nat) × Nat × (Nat → Nat) × Nat × Nat × Nat × Nat × Nat × (Nat → Nat) × Nat) => [(t0, eTxt tb tn), (tb, eRow tba len), (tba, eArr cI 300 tx), (tn, eRow tna kn'), (tna, eArr cI 3 g'), (a, eCan b1 b2 sp' he' air' sn), (b1, eRow c1 (3 * nc')), (c1, eArr cI 12 cl'), (b2, eRow c2 (3 * nw')), (c2, eArr cI 24 wd')]) (cl, nc, wd, nw, sp, he, air, 0, upN g' i (byM tx len pl - 48), i + 1) (Or.inr ⟨rfl, itemM_none hwt (by rw [hnum, show wt - i = (wt - (i + 1)) + 1 from by omega]; exact numsM_none (by rw [numM_1 h32 h33]; exact if_neg (by split <;> omega))), by omega, by omega, (upN_bd hgb (by omega)), by omega⟩) hK (hP.sub [5, 8, 9, 6, 7, 0, 1, 2, 3, 4] rfl) (hD.sub [5, 8, 9, 6, 7, 0, 1, 2, 3, 4] rfl rfl) hS
            · refine lv_bipush (v := (nI 44)) hx hb dX4_readItem_107 (by decide) ?_
              refine lv_goto (tgt := 114) hx hb dX4_readItem_109 (by decide) ?_
              refine x_icmp_eq (tgt := 120) hx hb dX4_readItem_114 (by decide) (by omega) (by omega) (fun h46 => ?_) (fun h46 => ?_)
              · refine lv_iinc (v := (nI (pl + 1 + 1))) (lv' := [(5, .int (nI (pl + 1 + 1))), (7, .int (nI 1)), (6, .int (nI i)), (4, .int (nI wt)), (3, .int (nI (byM tx len p0))), (0, .ref t0), (1, .int (nI p0)), (2, .ref a)]) hx hb dX4_readItem_120 hl (k := 0) rfl (nI_inc _ 1) (by decide) rfl (fun ls hl => ?_)
                refine lv_iinc (v := (nI (i + 1))) (lv' := [(6, .int (nI (i + 1))), (5, .int (nI (pl + 1 + 1))), (7, .int (nI 1)), (4, .int (nI wt)), (3, .int (nI (byM tx len p0))), (0, .ref t0), (1, .int (nI p0)), (2, .ref a)]) hx hb dX4_readItem_123 hl (k := 2) rfl (nI_inc _ 1) (by decide) rfl (fun ls hl => ?_)
                refine lv_goto (tgt := 43) hx hb dX4_readItem_126 (by decide) ?_
                exact ih43 (i + 1) (pl + 1 + 1) (acc ++ [byM tx len pl - 48]) (upN g' i (byM tx len pl - 48)) (by omega) (by omega) (by rw [List.length_append, hlen2]; rfl) (rep_app hlen2 hrep2) (upN_bd hgb (by omega)) (by rw [hnum, show wt - i = (wt - (i + 1)) + 1 from by omega]; exact numsM_some (by rw [numM_1 h32 h33]; exact if_pos (by split <;> omega))) (by omega) (by omega) _ _ (hP.sub [5, 8, 9, 6, 7, 0, 1, 2, 3, 4] rfl) (hD.sub [5, 8, 9, 6, 7, 0, 1, 2, 3, 4] rfl rfl) hS _ (lv_sub hl [0, 1, 3, 4, 5, 6, 7] rfl)
              · refine lv_bipush (v := (iI (-4))) hx hb dX4_readItem_117 (by decide) ?_
                exact x_iret hx hb hr hlocks dX4_readItem_119 rfl (post := fun (r : Int32) ((cl', nc', wd', nw', sp', he', air', pn, g', kn') : (Nat → Nat) × Nat × (Nat → Nat) × Nat × Nat × Nat × Nat × Nat × (Nat → Nat) × Nat) => (r = (nI pn) ∧ itemM (byM tx len) p0 (cl, nc, wd, nw, sp, he, air) = some ((cl', nc', wd', nw', sp', he', air'), pn) ∧ nc' ≤ 4 ∧ nw' ≤ 8 ∧ p0 < pn ∧ pn ≤ p0 + 10 ∧ (∀ j, g' j < 1000) ∧ kn' ≤ 3) ∨ (r = (iI (-4)) ∧ itemM (byM tx len) p0 (cl, nc, wd, nw, sp, he, air) = none ∧ nc' ≤ 4 ∧ nw' ≤ 8 ∧ (∀ j, g' j < 1000) ∧ kn' ≤ 3)) (w1 := fun ((cl', nc', wd', nw', sp', he', air', pn, g', kn') : (Nat → Nat) × Nat × (Nat → Nat) × Nat × Nat × Nat × Nat × Nat × (Nat → Nat) × Nat) => [(t0, eTxt tb tn), (tb, eRow tba len), (tba, eArr cI 300 tx), (tn, eRow tna kn'), (tna, eArr cI 3 g'), (a, eCan b1 b2 sp' he' air' sn), (b1, eRow c1 (3 * nc')), (c1, eArr cI 12 cl'), (b2, eRow c2 (3 * nw')), (c2, eArr cI 24 wd')]) (cl, nc, wd, nw, sp, he, air, 0, upN g' i (byM tx len pl - 48), i + 1) (Or.inr ⟨rfl, itemM_none hwt (by rw [hnum, show wt - i = (wt - (i + 1)) + 1 from by omega]; exact numsM_none (by rw [numM_1 h32 h33]; exact if_neg (by split <;> omega))), by omega, by omega, (upN_bd hgb (by omega)), by omega⟩) hK (hP.sub [5, 8, 9, 6, 7, 0, 1, 2, 3, 4] rfl) (hD.sub [5, 8, 9, 6, 7, 0, 1, 2, 3, 4] rfl rfl) hS
          · have hq1 := figB_1 h34
            have hq2 := figB_1 h35
            refine lv_istore (lv' := [(7, .int (nI 2)), (6, .int (nI i)), (5, .int (nI pl)), (4, .int (nI wt)), (3, .int (nI (byM tx len p0))), (0, .ref t0), (1, .int (nI p0)), (2, .ref a)]) hx hb dX4_readItem_56 hl (by decide) rfl (fun ls hl => ?_)
            refine lv_iload hx hb dX4_readItem_58 (lv_at hl 0 rfl) ?_
            refine x_if_ne (tgt := 66) hx hb dX4_readItem_60 (by decide) (by omega) (fun h47 => ?_) (fun h47 => False.elim (by omega))
            refine lv_aload_n hx hb dX4_readItem_66 rfl (lv_at hl 5 rfl) ?_
            refine va_get (D := D) (ci := 4) (v := .ref tn) (C := RX4) (T := TX4) (N := 2) hx hb hts inX4 hown hK hP 7 rfl rfl 1 (by decide) fl20 (fun _ h9 => h9) rfl dX4_readItem_67 ?_
            refine lv_aload_n hx hb dX4_readItem_70 rfl (lv_at hl 5 rfl) ?_
            refine lv_iload hx hb dX4_readItem_71 (lv_at hl 2 rfl) ?_
            refine lv_iload hx hb dX4_readItem_73 (lv_at hl 0 rfl) ?_
            refine k_V (q := (RX4, TX4, 2)) (ci := 4) (As := [.int (nI pl), .int (nI 2)]) (wr := [(tn, eRow tna i), (tna, eArr cI 3 g'), (a, eCan b1 b2 sp he air sn), (b1, eRow c1 (3 * nc)), (c1, eArr cI 12 cl), (b2, eRow c2 (3 * nw)), (c2, eArr cI 24 wd)]) ⟨hx, hb, hml, hown, hts⟩ (c_X4_numberAt_two l D cI cC t0 tb tba tn tx len (by omega) pl (by omega) hB hq1 hq2) (cwV 2 hts gX4_readItem_X4_numberAt rfl rfl rfl (by decide +kernel) ⟨Nat.le_of_ble_eq_true rfl, Nat.le_of_ble_eq_true rfl⟩) rfl hl.1 rfl (Nat.le_of_ble_eq_true rfl) dX4_readItem_75 ⟨Nat.zero_le _, Nat.zero_le _⟩ hN hK hP hD hS hA rfl (q0 := 7) rfl [7, 8, 9] [0, 1, 2, 3, 4, 5, 6] rfl rfl ⟨rfl, rfl, by decide⟩ (fun r48 u H locs w49 hP hD hS => ?_)
            obtain rfl : r48 = (nI (10 * (byM tx len pl - 48) + byM tx len (pl + 1) - 48)) := w49
            refine k_V (q := (RX1, TX1, 2)) (ci := 1) (As := [.int (nI (10 * (byM tx len pl - 48) + byM tx len (pl + 1) - 48))]) (wr := [(a, eCan b1 b2 sp he air sn), (b1, eRow c1 (3 * nc)), (c1, eArr cI 12 cl), (b2, eRow c2 (3 * nw)), (c2, eArr cI 24 wd), (t0, eTxt tb tn), (tb, eRow tba len), (tba, eArr cI 300 tx)]) ⟨hx, hb, hml, hown, hts⟩ (c_X1_add_lt l D cI cC tn tna 3 g' i (10 * (byM tx len pl - 48) + byM tx len (pl + 1) - 48) (by omega) (by omega)) (cwV 1 hts gX4_readItem_X1_add rfl rfl rfl (by decide +kernel) ⟨Nat.le_of_ble_eq_true rfl, Nat.le_of_ble_eq_true rfl⟩) rfl hl.1 rfl (Nat.le_of_ble_eq_true rfl) dX4_readItem_78 ⟨Nat.zero_le _, Nat.zero_le _⟩ hN hK hP hD hS hA rfl (q0 := 0) rfl [0, 1] [2, 3, 4, 5, 6, 7, 8, 9] rfl rfl ⟨rfl, rfl, by decide⟩ (fun r50 u H locs w51 hP hD hS => ?_)
            obtain rfl : r50 = (nI 1) := w51
            refine lv_pop hx hb dX4_readItem_81 rfl ?_
            refine lv_iload hx hb dX4_readItem_82 (lv_at hl 2 rfl) ?_
            refine lv_iload hx hb dX4_readItem_84 (lv_at hl 0 rfl) ?_
            refine x_iadd hx hb dX4_readItem_86 ?_
            refine lv_istore (lv' := [(5, .int (nI (pl + 2))), (7, .int (nI 2)), (6, .int (nI i)), (4, .int (nI wt)), (3, .int (nI (byM tx len p0))), (0, .ref t0), (1, .int (nI p0)), (2, .ref a)]) hx hb dX4_readItem_87 hl (by decide) rfl (fun ls hl => ?_)
            refine lv_aload_n hx hb dX4_readItem_89 rfl (lv_at hl 5 rfl) ?_
            refine va_get (D := D) (ci := 4) (v := .ref tb) (C := RX4) (T := TX4) (N := 2) hx hb hts inX4 hown hK hP 5 rfl rfl 0 (by decide) fl14 (fun _ h9 => h9) rfl dX4_readItem_90 ?_
            refine lv_iload hx hb dX4_readItem_93 (lv_at hl 0 rfl) ?_
            refine k_V (q := (RX1, TX1, 2)) (ci := 1) (As := [.int (nI (pl + 2))]) (wr := [(a, eCan b1 b2 sp he air sn), (b1, eRow c1 (3 * nc)), (c1, eArr cI 12 cl), (b2, eRow c2 (3 * nw)), (c2, eArr cI 24 wd), (t0, eTxt tb tn), (tn, eRow tna (i + 1)), (tna, eArr cI 3 (upN g' i (10 * (byM tx len pl - 48) + byM tx len (pl + 1) - 48)))]) ⟨hx, hb, hml, hown, hts⟩ (c_X1_at_by l D cI cC tb tba 300 tx len (pl + 2) (by omega) (by omega) (by omega)) (cwV 1 hts gX4_readItem_X1_at rfl rfl rfl (by decide +kernel) ⟨Nat.le_of_ble_eq_true rfl, Nat.le_of_ble_eq_true rfl⟩) rfl hl.1 rfl (Nat.le_of_ble_eq_true rfl) dX4_readItem_95 ⟨Nat.zero_le _, Nat.zero_le _⟩ hN hK hP hD hS hA rfl (q0 := 6) rfl [6, 7] [0, 1, 2, 3, 4, 5, 8, 9] rfl rfl ⟨rfl, rfl, by decide⟩ (fun r52 u H locs w53 hP hD hS => ?_)
            obtain rfl : r52 = (nI (byM tx len (pl + 2))) := w53
            have hbq := hB (pl + 2)
            refine lv_iload hx hb dX4_readItem_98 (lv_at hl 2 rfl) ?_
            refine lv_iload hx hb dX4_readItem_100 (lv_at hl 3 rfl) ?_
            refine lv_iconst (v := (nI 1)) hx hb dX4_readItem_102 (by decide) ?_
            refine x_isub hx hb dX4_readItem_103 (by omega) ?_
            refine x_icmp_ge (tgt := 112) hx hb dX4_readItem_104 (by decide) (by omega) (by omega) (fun h54 => ?_) (fun h54 => ?_)
            · refine lv_bipush (v := (nI 59)) hx hb dX4_readItem_112 (by decide) ?_
              refine x_icmp_eq (tgt := 120) hx hb dX4_readItem_114 (by decide) (by omega) (by omega) (fun h55 => ?_) (fun h55 => ?_)
              · refine lv_iinc (v := (nI (pl + 2 + 1))) (lv' := [(5, .int (nI (pl + 2 + 1))), (7, .int (nI 2)), (6, .int (nI i)), (4, .int (nI wt)), (3, .int (nI (byM tx len p0))), (0, .ref t0), (1, .int (nI p0)), (2, .ref a)]) hx hb dX4_readItem_120 hl (k := 0) rfl (nI_inc _ 1) (by decide) rfl (fun ls hl => ?_)
                refine lv_iinc (v := (nI (i + 1))) (lv' := [(6, .int (nI (i + 1))), (5, .int (nI (pl + 2 + 1))), (7, .int (nI 2)), (4, .int (nI wt)), (3, .int (nI (byM tx len p0))), (0, .ref t0), (1, .int (nI p0)), (2, .ref a)]) hx hb dX4_readItem_123 hl (k := 2) rfl (nI_inc _ 1) (by decide) rfl (fun ls hl => ?_)
                refine lv_goto (tgt := 43) hx hb dX4_readItem_126 (by decide) ?_
                exact ih43 (i + 1) (pl + 2 + 1) (acc ++ [10 * (byM tx len pl - 48) + byM tx len (pl + 1) - 48]) (upN g' i (10 * (byM tx len pl - 48) + byM tx len (pl + 1) - 48)) (by omega) (by omega) (by rw [List.length_append, hlen2]; rfl) (rep_app hlen2 hrep2) (upN_bd hgb (by omega)) (by rw [hnum, show wt - i = (wt - (i + 1)) + 1 from by omega]; exact numsM_some (by rw [numM_2 h34 h35]; exact if_pos (by split <;> omega))) (by omega) (by omega) _ _ (hP.sub [5, 8, 9, 6, 7, 0, 1, 2, 3, 4] rfl) (hD.sub [5, 8, 9, 6, 7, 0, 1, 2, 3, 4] rfl rfl) hS _ (lv_sub hl [0, 1, 3, 4, 5, 6, 7] rfl)
              · refine lv_bipush (v := (iI (-4))) hx hb dX4_readItem_117 (by decide) ?_
                exact x_iret hx hb hr hlocks dX4_readItem_119 rfl (post := fun (r : Int32) ((cl', nc', wd', nw', sp', he', air', pn, g', kn') : (Nat → Nat) × Nat × (Nat → Nat) × Nat × Nat × Nat × Nat × Nat × (Nat → Nat) × Nat) => (r = (nI pn) ∧ itemM (byM tx len) p0 (cl, nc, wd, nw, sp, he, air) = some ((cl', nc', wd', nw', sp', he', air'), pn) ∧ nc' ≤ 4 ∧ nw' ≤ 8 ∧ p0 < pn ∧ pn ≤ p0 + 10 ∧ (∀ j, g' j < 1000) ∧ kn' ≤ 3) ∨ (r = (iI (-4)) ∧ itemM (byM tx len) p0 (cl, nc, wd, nw, sp, he, air) = none ∧ nc' ≤ 4 ∧ nw' ≤ 8 ∧ (∀ j, g' j < 1000) ∧ kn' ≤ 3)) (w1 := fun ((cl', nc', wd', nw', sp', he', air', pn, g', kn') : (Nat → Nat) × Nat × (Nat → Nat) × Nat × Nat × Nat × Nat × Nat × (Nat → Nat) × Nat) => [(t0, eTxt tb tn), (tb, eRow tba len), (tba, eArr cI 300 tx), (tn, eRow tna kn'), (tna, eArr cI 3 g'), (a, eCan b1 b2 sp' he' air' sn), (b1, eRow c1 (3 * nc')), (c1, eArr cI 12 cl'), (b2, eRow c2 (3 * nw')), (c2, eArr cI 24 wd')]) (cl, nc, wd, nw, sp, he, air, 0, upN g' i (10 * (byM tx len pl - 48) + byM tx len (pl + 1) - 48), i + 1) (Or.inr ⟨rfl, itemM_none hwt (by rw [hnum, show wt - i = (wt - (i + 1)) + 1 from by omega]; exact numsM_none (by rw [numM_2 h34 h35]; exact if_neg (by split <;> omega))), by omega, by omega, (upN_bd hgb (by omega)), by omega⟩) hK (hP.sub [5, 8, 9, 6, 7, 0, 1, 2, 3, 4] rfl) (hD.sub [5, 8, 9, 6, 7, 0, 1, 2, 3, 4] rfl rfl) hS
            · refine lv_bipush (v := (nI 44)) hx hb dX4_readItem_107 (by decide) ?_
              refine lv_goto (tgt := 114) hx hb dX4_readItem_109 (by decide) ?_
              refine x_icmp_eq (tgt := 120) hx hb dX4_readItem_114 (by decide) (by omega) (by omega) (fun h56 => ?_) (fun h56 => ?_)
              · refine lv_iinc (v := (nI (pl + 2 + 1))) (lv' := [(5, .int (nI (pl + 2 + 1))), (7, .int (nI 2)), (6, .int (nI i)), (4, .int (nI wt)), (3, .int (nI (byM tx len p0))), (0, .ref t0), (1, .int (nI p0)), (2, .ref a)]) hx hb dX4_readItem_120 hl (k := 0) rfl (nI_inc _ 1) (by decide) rfl (fun ls hl => ?_)
                refine lv_iinc (v := (nI (i + 1))) (lv' := [(6, .int (nI (i + 1))), (5, .int (nI (pl + 2 + 1))), (7, .int (nI 2)), (4, .int (nI wt)), (3, .int (nI (byM tx len p0))), (0, .ref t0), (1, .int (nI p0)), (2, .ref a)]) hx hb dX4_readItem_123 hl (k := 2) rfl (nI_inc _ 1) (by decide) rfl (fun ls hl => ?_)
                refine lv_goto (tgt := 43) hx hb dX4_readItem_126 (by decide) ?_
                exact ih43 (i + 1) (pl + 2 + 1) (acc ++ [10 * (byM tx len pl - 48) + byM tx len (pl + 1) - 48]) (upN g' i (10 * (byM tx len pl - 48) + byM tx len (pl + 1) - 48)) (by omega) (by omega) (by rw [List.length_append, hlen2]; rfl) (rep_app hlen2 hrep2) (upN_bd hgb (by omega)) (by rw [hnum, show wt - i = (wt - (i + 1)) + 1 from by omega]; exact numsM_some (by rw [numM_2 h34 h35]; exact if_pos (by split <;> omega))) (by omega) (by omega) _ _ (hP.sub [5, 8, 9, 6, 7, 0, 1, 2, 3, 4] rfl) (hD.sub [5, 8, 9, 6, 7, 0, 1, 2, 3, 4] rfl rfl) hS _ (lv_sub hl [0, 1, 3, 4, 5, 6, 7] rfl)
              · refine lv_bipush (v := (iI (-4))) hx hb dX4_readItem_117 (by decide) ?_
                exact x_iret hx hb hr hlocks dX4_readItem_119 rfl (post := fun (r : Int32) ((cl', nc', wd', nw', sp', he', air', pn, g', kn') : (Nat → Nat) × Nat × (Nat → Nat) × Nat × Nat × Nat × Nat × Nat × (Nat → Nat) × Nat) => (r = (nI pn) ∧ itemM (byM tx len) p0 (cl, nc, wd, nw, sp, he, air) = some ((cl', nc', wd', nw', sp', he', air'), pn) ∧ nc' ≤ 4 ∧ nw' ≤ 8 ∧ p0 < pn ∧ pn ≤ p0 + 10 ∧ (∀ j, g' j < 1000) ∧ kn' ≤ 3) ∨ (r = (iI (-4)) ∧ itemM (byM tx len) p0 (cl, nc, wd, nw, sp, he, air) = none ∧ nc' ≤ 4 ∧ nw' ≤ 8 ∧ (∀ j, g' j < 1000) ∧ kn' ≤ 3)) (w1 := fun ((cl', nc', wd', nw', sp', he', air', pn, g', kn') : (Nat → Nat) × Nat × (Nat → Nat) × Nat × Nat × Nat × Nat × Nat × (Nat → Nat) × Nat) => [(t0, eTxt tb tn), (tb, eRow tba len), (tba, eArr cI 300 tx), (tn, eRow tna kn'), (tna, eArr cI 3 g'), (a, eCan b1 b2 sp' he' air' sn), (b1, eRow c1 (3 * nc')), (c1, eArr cI 12 cl'), (b2, eRow c2 (3 * nw')), (c2, eArr cI 24 wd')]) (cl, nc, wd, nw, sp, he, air, 0, upN g' i (10 * (byM tx len pl - 48) + byM tx len (pl + 1) - 48), i + 1) (Or.inr ⟨rfl, itemM_none hwt (by rw [hnum, show wt - i = (wt - (i + 1)) + 1 from by omega]; exact numsM_none (by rw [numM_2 h34 h35]; exact if_neg (by split <;> omega))), by omega, by omega, (upN_bd hgb (by omega)), by omega⟩) hK (hP.sub [5, 8, 9, 6, 7, 0, 1, 2, 3, 4] rfl) (hD.sub [5, 8, 9, 6, 7, 0, 1, 2, 3, 4] rfl rfl) hS
    exact loop43 _ 0 (p0 + 1) ([]) g (Nat.lt_succ_self _) (by omega) rfl (fun j hj => absurd hj (Nat.not_lt_zero j)) hg0 rfl (by omega) (by omega) _ _ (hP.sub [0, 1, 2, 8, 9, 3, 4, 5, 6, 7] rfl) (hD.sub [0, 1, 2, 8, 9, 3, 4, 5, 6, 7] rfl rfl) hS _ (lv_sub hl [0, 1, 2, 3, 4, 5, 6] rfl)
  have hb0 := hB p0
  refine lv_iload_n hx hb dX4_readItem_9 rfl (lv_at hl 0 rfl) ?_
  refine lv_bipush (v := (nI 102)) hx hb dX4_readItem_10 (by decide) ?_
  refine x_icmp_eq (tgt := 21) hx hb dX4_readItem_12 (by decide) (by omega) (by omega) (fun h57 => ?_) (fun h57 => ?_)
  · refine lv_iconst (v := (nI 3)) hx hb dX4_readItem_21 (by decide) ?_
    refine lv_goto (tgt := 26) hx hb dX4_readItem_22 (by decide) ?_
    exact join26 3 (by first | exact if_pos (by omega) | exact if_neg (by omega)) (by omega) (by omega) _ _ (hP.sub [0, 8, 9, 1, 2, 3, 4, 5, 6, 7] rfl) (hD.sub [0, 8, 9, 1, 2, 3, 4, 5, 6, 7] rfl rfl) hS _ (lv_sub hl [0, 1, 2, 3] rfl)
  · refine lv_iload_n hx hb dX4_readItem_15 rfl (lv_at hl 0 rfl) ?_
    refine lv_bipush (v := (nI 119)) hx hb dX4_readItem_16 (by decide) ?_
    refine x_icmp_ne (tgt := 25) hx hb dX4_readItem_18 (by decide) (by omega) (by omega) (fun h58 => ?_) (fun h58 => ?_)
    · refine lv_iconst (v := (nI 1)) hx hb dX4_readItem_25 (by decide) ?_
      exact join26 1 (by first | exact if_pos (by omega) | exact if_neg (by omega)) (by omega) (by omega) _ _ (hP.sub [0, 8, 9, 1, 2, 3, 4, 5, 6, 7] rfl) (hD.sub [0, 8, 9, 1, 2, 3, 4, 5, 6, 7] rfl rfl) hS _ (lv_sub hl [0, 1, 2, 3] rfl)
    · refine lv_iconst (v := (nI 3)) hx hb dX4_readItem_21 (by decide) ?_
      refine lv_goto (tgt := 26) hx hb dX4_readItem_22 (by decide) ?_
      exact join26 3 (by first | exact if_pos (by omega) | exact if_neg (by omega)) (by omega) (by omega) _ _ (hP.sub [0, 8, 9, 1, 2, 3, 4, 5, 6, 7] rfl) (hD.sub [0, 8, 9, 1, 2, 3, 4, 5, 6, 7] rfl rfl) hS _ (lv_sub hl [0, 1, 2, 3] rfl)

set_option maxRecDepth 100000 in
set_option maxHeartbeats 4000000 in
theorem c_X4_readInto (l : Launch) (D : va_G) (cI cC : ClassId) (t0 : Nat) (tb : Nat) (tba : Nat) (tn : Nat) (tx : Nat → Nat) (len : Nat) (hlen : len ≤ 300) (tna : Nat) (g : Nat → Nat) (kn : Nat) (a : Nat) (b1 : Nat) (c1 : Nat) (b2 : Nat) (c2 : Nat) (cl : Nat → Nat) (nc : Nat) (wd : Nat → Nat) (nw : Nat) (sp : Nat) (he : Nat) (air : Nat) (sn : Nat) (hB : okB tx len) (hg0 : ∀ j, g j < 1000) (hk3 : kn ≤ 3) : mtI l D cI cC yX4_readInto wsX4_readInto ({ frames := 6, cells := 0, slots := 0, locals := 136 }) [.ref t0, .ref a] [(t0, eTxt tb tn), (tb, eRow tba len), (tba, eArr cI 300 tx), (tn, eRow tna kn), (tna, eArr cI 3 g), (a, eCan b1 b2 sp he air sn), (b1, eRow c1 (3 * nc)), (c1, eArr cI 12 cl), (b2, eRow c2 (3 * nw)), (c2, eArr cI 24 wd)] (fun (r : Int32) ((cl', nc', wd', nw', sp', he', air', pf, g', kn') : (Nat → Nat) × Nat × (Nat → Nat) × Nat × Nat × Nat × Nat × Nat × (Nat → Nat) × Nat) => (r = (nI pf) ∧ readM (byM tx len) len 300 0 (dr0 cl wd) = .inl pf ∧ nc' ≤ 4 ∧ nw' ≤ 8 ∧ (∀ j, g' j < 1000) ∧ kn' ≤ 3 ∧ pf < 300) ∨ (r = (iI (-4)) ∧ readM (byM tx len) len 300 0 (dr0 cl wd) = .inr (cl', nc', wd', nw', sp', he', air') ∧ nc' ≤ 4 ∧ nw' ≤ 8 ∧ (∀ j, g' j < 1000) ∧ kn' ≤ 3)) (fun ((cl', nc', wd', nw', sp', he', air', pf, g', kn') : (Nat → Nat) × Nat × (Nat → Nat) × Nat × Nat × Nat × Nat × Nat × (Nat → Nat) × Nat) => [(t0, eTxt tb tn), (tb, eRow tba len), (tba, eArr cI 300 tx), (tn, eRow tna kn'), (tna, eArr cI 3 g'), (a, eCan b1 b2 sp' he' air' 0), (b1, eRow c1 (3 * nc')), (c1, eArr cI 12 cl'), (b2, eRow c2 (3 * nw')), (c2, eArr cI 24 wd')]) := by
  refine mtI_of (cc := cX4_readInto) (maxL := 5) (ret := (some .int)) (by decide) rfl rfl ?_
  intro p e s m below meth c A hx hb hml hr hts hown hlocks hN hA hK hP hD hS ls hl
  have hown : s.vm.findClass RX4 = some m.cls := hown
  have hl : lv_has ls 5 [(0, .ref t0), (1, .ref a)] := hl
  obtain ⟨H, hHe⟩ : ∃ H, H = s.heap := ⟨_, rfl⟩
  rw [← hHe] at hP ⊢
  have hS : va_S A s.heap H [] := by rw [hHe]; exact va_S.rf
  have fl14 := hts (.fieldLink RX4 14 "EchoPaysRent$Text" "bytes" "LEchoPaysRent$Row;") (by decide +kernel)
  have inX4 : ∀ w ∈ wsX40, w ∈ wsX4_readInto := by decide +kernel
  refine lv_aload_n hx hb dX4_readInto_0 rfl (lv_at hl 1 rfl) ?_
  refine k_Vv (q := (RX0, TX0, 6)) (ci := 0) (As := []) (wr := [(t0, eTxt tb tn), (tb, eRow tba len), (tba, eArr cI 300 tx), (tn, eRow tna kn), (tna, eArr cI 3 g)]) ⟨hx, hb, hml, hown, hts⟩ (c_X0_empty l D cI cC a b1 c1 b2 c2 cl wd sp he air sn (3 * nc) (3 * nw)) (cwV 0 hts gX4_readInto_X0_empty rfl rfl rfl (by decide +kernel) ⟨Nat.le_of_ble_eq_true rfl, Nat.le_of_ble_eq_true rfl⟩) rfl hl.1 rfl (Nat.le_of_ble_eq_true rfl) dX4_readInto_1 ⟨Nat.zero_le _, Nat.zero_le _⟩ hN hK hP hD hS hA rfl (q0 := 5) rfl [5, 6, 7, 8, 9] [0, 1, 2, 3, 4] rfl rfl ⟨rfl, rfl, by decide⟩ (fun u H locs w2 hP hD hS => ?_)
  refine lv_iconst (v := (nI 0)) hx hb dX4_readInto_4 (by decide) ?_
  refine lv_istore_n (lv' := [(2, .int (nI 0)), (0, .ref t0), (1, .ref a)]) hx hb dX4_readInto_5 rfl hl (by decide) rfl (fun ls hl => ?_)
  refine lv_iconst (v := (nI 0)) hx hb dX4_readInto_6 (by decide) ?_
  refine lv_istore_n (lv' := [(3, .int (nI 0)), (2, .int (nI 0)), (0, .ref t0), (1, .ref a)]) hx hb dX4_readInto_7 rfl hl (by decide) rfl (fun ls hl => ?_)
  have loop8 : ∀ (nn8 : Nat) (it : Nat) (pl : Nat) (cl' : Nat → Nat) (nc' : Nat) (wd' : Nat → Nat) (nw' : Nat) (sp' : Nat) (he' : Nat) (air' : Nat) (g' : Nat → Nat) (kn' : Nat), 300 - it < nn8 → (readM (byM tx len) len 300 0 (dr0 cl wd) = readM (byM tx len) len (300 - it) pl (cl', nc', wd', nw', sp', he', air')) → (nc' ≤ 4 ∧ nw' ≤ 8) → (∀ j, g' j < 1000) → (kn' ≤ 3) → (pl ≤ 310) → (it ≤ 300) → ∀ (H : Heap) (locs : List Loc), va_P D vwCl [(t0, eTxt tb tn), (tb, eRow tba len), (tba, eArr cI 300 tx), (tn, eRow tna kn'), (tna, eArr cI 3 g'), (a, eCan b1 b2 sp' he' air' 0), (b1, eRow c1 (3 * nc')), (c1, eArr cI 12 cl'), (b2, eRow c2 (3 * nw')), (c2, eArr cI 24 wd')] H → va_D A [(t0, eTxt tb tn), (tb, eRow tba len), (tba, eArr cI 300 tx), (tn, eRow tna kn'), (tna, eArr cI 3 g'), (a, eCan b1 b2 sp' he' air' 0), (b1, eRow c1 (3 * nc')), (c1, eArr cI 12 cl'), (b2, eRow c2 (3 * nw')), (c2, eArr cI 24 wd')] → va_S A s.heap H locs → ∀ ls : Array Slot, lv_has ls 5 [(3, .int (nI it)), (2, .int (nI pl)), (0, .ref t0), (1, .ref a)] → W p l e (headSpec wsX4_readInto ({ frames := 6, cells := 0, slots := 0, locals := 136 })).room s m ([.ref t0, .ref a] : List Value).toArray below meth c H locs 0 0 (MQ below (va_Qi (fun (r : Int32) ((cl', nc', wd', nw', sp', he', air', pf, g', kn') : (Nat → Nat) × Nat × (Nat → Nat) × Nat × Nat × Nat × Nat × Nat × (Nat → Nat) × Nat) => (r = (nI pf) ∧ readM (byM tx len) len 300 0 (dr0 cl wd) = .inl pf ∧ nc' ≤ 4 ∧ nw' ≤ 8 ∧ (∀ j, g' j < 1000) ∧ kn' ≤ 3 ∧ pf < 300) ∨ (r = (iI (-4)) ∧ readM (byM tx len) len 300 0 (dr0 cl wd) = .inr (cl', nc', wd', nw', sp', he', air') ∧ nc' ≤ 4 ∧ nw' ≤ 8 ∧ (∀ j, g' j < 1000) ∧ kn' ≤ 3)) (ctB D cI cC (fun ((cl', nc', wd', nw', sp', he', air', pf, g', kn') : (Nat → Nat) × Nat × (Nat → Nat) × Nat × Nat × Nat × Nat × Nat × (Nat → Nat) × Nat) => [(t0, eTxt tb tn), (tb, eRow tba len), (tba, eArr cI 300 tx), (tn, eRow tna kn'), (tna, eArr cI 3 g'), (a, eCan b1 b2 sp' he' air' 0), (b1, eRow c1 (3 * nc')), (c1, eArr cI 12 cl'), (b2, eRow c2 (3 * nw')), (c2, eArr cI 24 wd')]) A) A) ([.ref t0, .ref a] : List Value).toArray s 0 0 A) (F0 m 8 ls []) := by
    intro nn8
    induction nn8 with
    | zero =>
      intro it pl cl' nc' wd' nw' sp' he' air' g' kn' hm3
      exact absurd hm3 (Nat.not_lt_zero _)
    | succ nn8 ih8 =>
      intro it pl cl' nc' wd' nw' sp' he' air' g' kn' hm3 hrd hi4 hgb hi5 hi6 hi7 H locs hP hD hS ls hl
      refine lv_iload_n hx hb dX4_readInto_8 rfl (lv_at hl 0 rfl) ?_
      refine lv_sipush (v := (nI 300)) hx hb dX4_readInto_9 (by decide) ?_
      refine x_icmp_ge (tgt := 52) hx hb dX4_readInto_12 (by decide) (by omega) (by omega) (fun h8 => ?_) (fun h8 => ?_)
      · refine lv_bipush (v := (iI (-4))) hx hb dX4_readInto_52 (by decide) ?_
        exact x_iret hx hb hr hlocks dX4_readInto_54 rfl (post := fun (r : Int32) ((cl', nc', wd', nw', sp', he', air', pf, g', kn') : (Nat → Nat) × Nat × (Nat → Nat) × Nat × Nat × Nat × Nat × Nat × (Nat → Nat) × Nat) => (r = (nI pf) ∧ readM (byM tx len) len 300 0 (dr0 cl wd) = .inl pf ∧ nc' ≤ 4 ∧ nw' ≤ 8 ∧ (∀ j, g' j < 1000) ∧ kn' ≤ 3 ∧ pf < 300) ∨ (r = (iI (-4)) ∧ readM (byM tx len) len 300 0 (dr0 cl wd) = .inr (cl', nc', wd', nw', sp', he', air') ∧ nc' ≤ 4 ∧ nw' ≤ 8 ∧ (∀ j, g' j < 1000) ∧ kn' ≤ 3)) (w1 := fun ((cl', nc', wd', nw', sp', he', air', pf, g', kn') : (Nat → Nat) × Nat × (Nat → Nat) × Nat × Nat × Nat × Nat × Nat × (Nat → Nat) × Nat) => [(t0, eTxt tb tn), (tb, eRow tba len), (tba, eArr cI 300 tx), (tn, eRow tna kn'), (tna, eArr cI 3 g'), (a, eCan b1 b2 sp' he' air' 0), (b1, eRow c1 (3 * nc')), (c1, eArr cI 12 cl'), (b2, eRow c2 (3 * nw')), (c2, eArr cI 24 wd')]) (cl', nc', wd', nw', sp', he', air', 0, g', kn') (Or.inr ⟨rfl, by rw [hrd]; first | exact readM_end (by omega) | (rw [show 300 - it = 0 from by omega]; rfl), by omega, by omega, by assumption, by omega⟩) hK hP hD hS
      · refine lv_iload_n hx hb dX4_readInto_15 rfl (lv_at hl 1 rfl) ?_
        refine lv_aload_n hx hb dX4_readInto_16 rfl (lv_at hl 2 rfl) ?_
        refine va_get (D := D) (ci := 4) (v := .ref tb) (C := RX4) (T := TX4) (N := 2) hx hb hts inX4 hown hK hP 0 rfl rfl 0 (by decide) fl14 (fun _ h9 => h9) rfl dX4_readInto_17 ?_
        refine k_V (q := (RX1, TX1, 2)) (ci := 1) (As := []) (wr := [(t0, eTxt tb tn), (tn, eRow tna kn'), (tna, eArr cI 3 g'), (a, eCan b1 b2 sp' he' air' 0), (b1, eRow c1 (3 * nc')), (c1, eArr cI 12 cl'), (b2, eRow c2 (3 * nw')), (c2, eArr cI 24 wd')]) ⟨hx, hb, hml, hown, hts⟩ (c_X1_size l D cI cC tb tba 300 tx len) (cwV 0 hts gX4_readInto_X1_size rfl rfl rfl (by decide +kernel) ⟨Nat.le_of_ble_eq_true rfl, Nat.le_of_ble_eq_true rfl⟩) rfl hl.1 rfl (Nat.le_of_ble_eq_true rfl) dX4_readInto_20 ⟨Nat.zero_le _, Nat.zero_le _⟩ hN hK hP hD hS hA rfl (q0 := 1) rfl [1, 2] [0, 3, 4, 5, 6, 7, 8, 9] rfl rfl ⟨rfl, rfl, by decide⟩ (fun r9 u H locs w10 hP hD hS => ?_)
        obtain rfl : r9 = (nI len) := w10
        refine x_icmp_ge (tgt := 52) hx hb dX4_readInto_23 (by decide) (by omega) (by omega) (fun h11 => ?_) (fun h11 => ?_)
        · refine lv_bipush (v := (iI (-4))) hx hb dX4_readInto_52 (by decide) ?_
          exact x_iret hx hb hr hlocks dX4_readInto_54 rfl (post := fun (r : Int32) ((cl', nc', wd', nw', sp', he', air', pf, g', kn') : (Nat → Nat) × Nat × (Nat → Nat) × Nat × Nat × Nat × Nat × Nat × (Nat → Nat) × Nat) => (r = (nI pf) ∧ readM (byM tx len) len 300 0 (dr0 cl wd) = .inl pf ∧ nc' ≤ 4 ∧ nw' ≤ 8 ∧ (∀ j, g' j < 1000) ∧ kn' ≤ 3 ∧ pf < 300) ∨ (r = (iI (-4)) ∧ readM (byM tx len) len 300 0 (dr0 cl wd) = .inr (cl', nc', wd', nw', sp', he', air') ∧ nc' ≤ 4 ∧ nw' ≤ 8 ∧ (∀ j, g' j < 1000) ∧ kn' ≤ 3)) (w1 := fun ((cl', nc', wd', nw', sp', he', air', pf, g', kn') : (Nat → Nat) × Nat × (Nat → Nat) × Nat × Nat × Nat × Nat × Nat × (Nat → Nat) × Nat) => [(t0, eTxt tb tn), (tb, eRow tba len), (tba, eArr cI 300 tx), (tn, eRow tna kn'), (tna, eArr cI 3 g'), (a, eCan b1 b2 sp' he' air' 0), (b1, eRow c1 (3 * nc')), (c1, eArr cI 12 cl'), (b2, eRow c2 (3 * nw')), (c2, eArr cI 24 wd')]) (cl', nc', wd', nw', sp', he', air', 0, g', kn') (Or.inr ⟨rfl, by rw [hrd]; first | exact readM_end (by omega) | (rw [show 300 - it = 0 from by omega]; rfl), by omega, by omega, by assumption, by omega⟩) hK (hP.sub [0, 8, 9, 1, 2, 3, 4, 5, 6, 7] rfl) (hD.sub [0, 8, 9, 1, 2, 3, 4, 5, 6, 7] rfl rfl) hS
        · refine lv_aload_n hx hb dX4_readInto_26 rfl (lv_at hl 2 rfl) ?_
          refine lv_iload_n hx hb dX4_readInto_27 rfl (lv_at hl 1 rfl) ?_
          refine lv_aload_n hx hb dX4_readInto_28 rfl (lv_at hl 3 rfl) ?_
          refine k_V (q := (RX4, TX4, 2)) (ci := 4) (As := [.int (nI pl), .ref a]) (wr := []) ⟨hx, hb, hml, hown, hts⟩ (c_X4_readItem l D cI cC t0 tb tba tn tx len (by omega) tna g' kn' a b1 c1 b2 c2 cl' nc' wd' nw' sp' he' air' 0 pl (by omega) hB (by omega) hgb (by omega)) (cwV 2 hts gX4_readInto_X4_readItem rfl rfl rfl (by decide +kernel) ⟨Nat.le_of_ble_eq_true rfl, Nat.le_of_ble_eq_true rfl⟩) rfl hl.1 rfl (Nat.le_of_ble_eq_true rfl) dX4_readInto_29 ⟨Nat.zero_le _, Nat.zero_le _⟩ hN hK hP hD hS hA rfl (q0 := 0) rfl [0, 8, 9, 1, 2, 3, 4, 5, 6, 7] [] rfl rfl ⟨rfl, rfl, by decide⟩ (fun r12 u H locs w23 hP hD hS => ?_)
          obtain ⟨cl'13, nc'14, wd'15, nw'16, sp'17, he'18, air'19, pn20, g'21, kn'22⟩ := u
          obtain ⟨rfl, h24, h25, h26, h27, h28, h29, h30⟩ | ⟨rfl, h31, h32, h33, h34, h35⟩ : (r12 = (nI pn20) ∧ itemM (byM tx len) pl (cl', nc', wd', nw', sp', he', air') = some ((cl'13, nc'14, wd'15, nw'16, sp'17, he'18, air'19), pn20) ∧ nc'14 ≤ 4 ∧ nw'16 ≤ 8 ∧ pl < pn20 ∧ pn20 ≤ pl + 10 ∧ (∀ j, g'21 j < 1000) ∧ kn'22 ≤ 3) ∨ (r12 = (iI (-4)) ∧ itemM (byM tx len) pl (cl', nc', wd', nw', sp', he', air') = none ∧ nc'14 ≤ 4 ∧ nw'16 ≤ 8 ∧ (∀ j, g'21 j < 1000) ∧ kn'22 ≤ 3) := w23
          · refine lv_istore (lv' := [(4, .int (nI pn20)), (3, .int (nI it)), (2, .int (nI pl)), (0, .ref t0), (1, .ref a)]) hx hb dX4_readInto_32 hl (by decide) rfl (fun ls hl => ?_)
            refine lv_iload hx hb dX4_readInto_34 (lv_at hl 0 rfl) ?_
            refine lv_bipush (v := (iI (-4))) hx hb dX4_readInto_36 (by decide) ?_
            refine x_top2 (nI_iI _) ?_
            refine z_icmp_ne (tgt := 43) hx hb dX4_readInto_38 (by decide) (by omega) (by omega) (fun h36 => ?_) (fun h36 => False.elim (by omega))
            refine lv_iload hx hb dX4_readInto_43 (lv_at hl 0 rfl) ?_
            refine lv_istore_n (lv' := [(2, .int (nI pn20)), (4, .int (nI pn20)), (3, .int (nI it)), (0, .ref t0), (1, .ref a)]) hx hb dX4_readInto_45 rfl hl (by decide) rfl (fun ls hl => ?_)
            refine lv_iinc (v := (nI (it + 1))) (lv' := [(3, .int (nI (it + 1))), (2, .int (nI pn20)), (4, .int (nI pn20)), (0, .ref t0), (1, .ref a)]) hx hb dX4_readInto_46 hl (k := 2) rfl (nI_inc _ 1) (by decide) rfl (fun ls hl => ?_)
            refine lv_goto (tgt := 8) hx hb dX4_readInto_49 (by decide) ?_
            exact ih8 (it + 1) pn20 cl'13 nc'14 wd'15 nw'16 sp'17 he'18 air'19 g'21 kn'22 (by omega) (by rw [hrd, show 300 - it = (300 - (it + 1)) + 1 from by omega]; exact readM_go (by omega) h24) (by omega) h29 (by omega) (by omega) (by omega) _ _ (hP.sub [0, 1, 2, 3, 4, 5, 6, 7, 8, 9] rfl) (hD.sub [0, 1, 2, 3, 4, 5, 6, 7, 8, 9] rfl rfl) hS _ (lv_sub hl [0, 1, 3, 4] rfl)
          · refine lv_istore (lv' := [(4, .int (iI (-4))), (3, .int (nI it)), (2, .int (nI pl)), (0, .ref t0), (1, .ref a)]) hx hb dX4_readInto_32 hl (by decide) rfl (fun ls hl => ?_)
            refine lv_iload hx hb dX4_readInto_34 (lv_at hl 0 rfl) ?_
            refine lv_bipush (v := (iI (-4))) hx hb dX4_readInto_36 (by decide) ?_
            refine z_icmp_ne (tgt := 43) hx hb dX4_readInto_38 (by decide) (by omega) (by omega) (fun h37 => False.elim (by omega)) (fun h37 => ?_)
            refine lv_iload_n hx hb dX4_readInto_41 rfl (lv_at hl 2 rfl) ?_
            exact x_iret hx hb hr hlocks dX4_readInto_42 rfl (post := fun (r : Int32) ((cl', nc', wd', nw', sp', he', air', pf, g', kn') : (Nat → Nat) × Nat × (Nat → Nat) × Nat × Nat × Nat × Nat × Nat × (Nat → Nat) × Nat) => (r = (nI pf) ∧ readM (byM tx len) len 300 0 (dr0 cl wd) = .inl pf ∧ nc' ≤ 4 ∧ nw' ≤ 8 ∧ (∀ j, g' j < 1000) ∧ kn' ≤ 3 ∧ pf < 300) ∨ (r = (iI (-4)) ∧ readM (byM tx len) len 300 0 (dr0 cl wd) = .inr (cl', nc', wd', nw', sp', he', air') ∧ nc' ≤ 4 ∧ nw' ≤ 8 ∧ (∀ j, g' j < 1000) ∧ kn' ≤ 3)) (w1 := fun ((cl', nc', wd', nw', sp', he', air', pf, g', kn') : (Nat → Nat) × Nat × (Nat → Nat) × Nat × Nat × Nat × Nat × Nat × (Nat → Nat) × Nat) => [(t0, eTxt tb tn), (tb, eRow tba len), (tba, eArr cI 300 tx), (tn, eRow tna kn'), (tna, eArr cI 3 g'), (a, eCan b1 b2 sp' he' air' 0), (b1, eRow c1 (3 * nc')), (c1, eArr cI 12 cl'), (b2, eRow c2 (3 * nw')), (c2, eArr cI 24 wd')]) (cl'13, nc'14, wd'15, nw'16, sp'17, he'18, air'19, pl, g'21, kn'22) (Or.inl ⟨rfl, by rw [hrd, show 300 - it = (300 - (it + 1)) + 1 from by omega]; exact readM_in (by omega) h31, by omega, by omega, by assumption, by omega, by omega⟩) hK hP hD hS
  exact loop8 _ 0 0 cl 0 wd 0 0 10 1 g kn (Nat.lt_succ_self _) rfl (by omega) hg0 (by omega) (by omega) (by omega) _ _ (hP.sub [0, 1, 2, 3, 4, 5, 6, 7, 8, 9] rfl) (hD.sub [0, 1, 2, 3, 4, 5, 6, 7, 8, 9] rfl rfl) hS _ (lv_sub hl [0, 1, 2, 3] rfl)
