/-! TALK and LINES of the reference. -/
theorem allB_ff {p : Nat → Bool} {n : Nat} (h : allB p n = false) : allB p (n + 1) = false := by
  show (allB p n && p n) = false
  rw [h]; rfl
theorem allB_cg {p q : Nat → Bool} {n : Nat} (h : ∀ k, k < n → p k = q k) : allB p n = allB q n := by
  induction n with
  | zero => rfl
  | succ n ih =>
    show (allB p n && p n) = (allB q n && q n)
    rw [ih (fun k hk => h k (by omega)), h n (by omega)]
def dgM (code : Nat) : Nat → Nat
  | 0 => 0
  | j + 1 => dgM code j + (if code / 2 ^ (2 * j) % 4 = 0 then 0 else 1)
theorem dgM_z {code j : Nat} (h : code / 2 ^ (2 * j) % 4 = 0) : dgM code (j + 1) = dgM code j + 0 := by
  show dgM code j + (if _ then _ else _) = _
  rw [if_pos h]
theorem dgM_n {code j : Nat} (h : ¬ code / 2 ^ (2 * j) % 4 = 0) : dgM code (j + 1) = dgM code j + 1 := by
  show dgM code j + (if _ then _ else _) = _
  rw [if_neg h]
theorem dgM_le (code j : Nat) : dgM code j ≤ j := by
  induction j with
  | zero => exact Nat.le_refl 0
  | succ j ih =>
    by_cases h : code / 2 ^ (2 * j) % 4 = 0
    · rw [dgM_z h]; omega
    · rw [dgM_n h]; omega
set_option maxRecDepth 100000 in
theorem dg_wi_all : ∀ n, n < 7 → ∀ k, k < 2 ^ (2 * n) → dgM k n = wiM k := by decide +kernel
theorem dg_wi {n k : Nat} (h : n ≤ 6) (h2 : k < 2 ^ (2 * n)) : dgM k n = wiM k := dg_wi_all n (by omega) k h2
def tlM (g : Nat → Nat) (code n j : Nat) : Nat → Nat := fun i => if n - j ≤ i ∧ i < n then lineM code n i else g i
theorem tlM_0 (g : Nat → Nat) (code n : Nat) : tlM g code n 0 = g := by
  funext i; unfold tlM; rw [if_neg (by omega)]
theorem tlM_s {g : Nat → Nat} {code n j : Nat} (h : j < n) : tlM g code n (j + 1) = upN (tlM g code n j) (n - 1 - j) (code / 2 ^ (2 * j) % 4) := by
  funext i; unfold tlM upN; dsimp only
  by_cases e : i = n - 1 - j
  · rw [if_pos (by omega), if_pos e]; unfold lineM
    rw [show n - 1 - i = j from by omega]
  · rw [if_neg e]
    by_cases h2 : n - j ≤ i ∧ i < n
    · rw [if_pos (by omega), if_pos h2]
    · rw [if_neg (by omega), if_neg h2]
theorem tlM_at {g : Nat → Nat} {code n i : Nat} (h : i < n) : tlM g code n n i = lineM code n i := by
  unfold tlM; rw [if_pos (by omega)]
theorem pow_next (code j : Nat) : code / 2 ^ (2 * j) / 4 = code / 2 ^ (2 * (j + 1)) := by
  rw [Nat.div_div_eq_div_mul, show 2 ^ (2 * (j + 1)) = 2 ^ (2 * j) * 4 from by rw [show 2 * (j + 1) = 2 * j + 2 from by omega, Nat.pow_add]]
theorem lineM_3 (code n i : Nat) : lineM code n i ≤ 3 := Nat.le_of_lt_succ (Nat.mod_lt _ (by omega))
/-- what is heard of the lines -/
def tkM (L : List (Nat × Nat)) (ln : Nat → Nat) : Nat → Snd
  | 0 => quietM
  | k + 1 => if 0 < ln k then carryM (tkM L ln k) k (ln k) 50 L else tkM L ln k
theorem tkM_t {L : List (Nat × Nat)} {ln : Nat → Nat} {k : Nat} (h : 0 < ln k) : tkM L ln (k + 1) = carryM (tkM L ln k) k (ln k) 50 L := if_pos h
theorem tkM_f {L : List (Nat × Nat)} {ln : Nat → Nat} {k : Nat} (h : ln k ≤ 0) : tkM L ln (k + 1) = tkM L ln k := if_neg (by omega)
theorem tkM_cg {L : List (Nat × Nat)} {ln ln' : Nat → Nat} {n : Nat} (h : ∀ k, k < n → ln k = ln' k) : tkM L ln n = tkM L ln' n := by
  induction n with
  | zero => rfl
  | succ n ih =>
    show (if 0 < ln n then _ else _) = (if 0 < ln' n then _ else _)
    rw [ih (fun k hk => h k (by omega)), h n (by omega)]
theorem okS_tk {L : List (Nat × Nat)} {ln : Nat → Nat} {n : Nat} (h : ∀ k, k < n → ln k ≤ 3) : ∀ k, k ≤ n → okS (tkM L ln k) := by
  intro k
  induction k with
  | zero => intro _; exact okS_quiet
  | succ k ih =>
    intro hk
    have h3 := h k (by omega)
    by_cases h0 : 0 < ln k
    · rw [tkM_t h0]; exact okS_carry (by omega) (by omega) L _ (ih (by omega))
    · rw [tkM_f (by omega)]; exact ih (by omega)
def itB (L : List (Nat × Nat)) (b0 : Nat) (ln tk : Nat → Nat) (n : Nat) : Nat → Bool := fun k => decide ((tkM L ln n).2 (b0 + k) = tk k)
def itM (L : List (Nat × Nat)) (b0 : Nat) (ln tk : Nat → Nat) (n : Nat) : Bool := allB (itB L b0 ln tk n) n
theorem itM_cg {L : List (Nat × Nat)} {b0 : Nat} {ln ln' tk : Nat → Nat} {n : Nat} (h : ∀ k, k < n → ln k = ln' k) : itM L b0 ln tk n = itM L b0 ln' tk n :=
  allB_cg (fun k _ => by unfold itB; rw [tkM_cg h])
/-- at one beat alone -/
theorem comeM_ne {S : Snd} {b b' : Nat} {z : Int} {v : Nat} (h : ¬ b' = b) : (comeM S b' z v).1 b = S.1 b ∧ (comeM S b' z v).2 b = S.2 b := by
  unfold comeM
  split
  · exact ⟨rfl, rfl⟩
  · exact ⟨upN_n (fun e => h e.symm), upN_n (fun e => h e.symm)⟩
theorem carryM_at {b t v l : Nat} (hb : b < 150) (L : List (Nat × Nat)) : ∀ S : Snd, ((carryM S t v l L).1 b, (carryM S t v l L).2 b) = carryP (S.1 b, S.2 b) b t v l L := by
  unfold carryM carryP
  induction L with
  | nil => intro S; rfl
  | cons a L ih =>
    intro S
    simp only [List.foldl_cons]
    rw [ih]
    congr 1
    by_cases h : t + a.1 = b
    · rw [if_pos h, h]; exact comeM_at hb
    · rw [if_neg h, (comeM_ne h).1, (comeM_ne h).2]
theorem carryP_no {b t v l : Nat} (L : List (Nat × Nat)) (h : ∀ w, w ∈ L → ¬ t + w.1 = b) : ∀ p : Nat × Nat, carryP p b t v l L = p := by
  unfold carryP
  induction L with
  | nil => intro p; rfl
  | cons a L ih =>
    intro p
    simp only [List.foldl_cons]
    rw [if_neg (h a List.mem_cons_self)]
    exact ih (fun w hw => h w (List.mem_cons_of_mem _ hw)) p
theorem tkM_hos {L : List (Nat × Nat)} {ln : Nat → Nat} {b : Nat} (hb : b < 150) (k : Nat) : ((tkM L ln k).1 b, (tkM L ln k).2 b) = hosP L b ln k := by
  induction k with
  | zero => rfl
  | succ k ih =>
    by_cases h0 : 0 < ln k
    · rw [tkM_t h0, hosP_t h0, carryM_at hb, ih]
    · rw [tkM_f (by omega), hosP_f (by omega), ih]
theorem hosP_end {L : List (Nat × Nat)} {ln : Nat → Nat} {b0 i : Nat} (hL : ∀ w, w ∈ L → b0 ≤ w.1) (n : Nat) : i < n → hosP L (b0 + i) ln n = hosP L (b0 + i) ln (i + 1) := by
  induction n with
  | zero => intro h; omega
  | succ n ih =>
    intro h
    by_cases e : i = n
    · rw [e]
    · rw [← ih (by omega)]
      by_cases h0 : 0 < ln n
      · rw [hosP_t h0]
        exact carryP_no L (fun w hw => by have := hL w hw; omega) _
      · rw [hosP_f (by omega)]
theorem wayM_min {cl : Nat → Nat} {air sn x y f : Nat} : ∀ w, w ∈ wayM cl air sn x y f → absd x y ≤ w.1 := by
  intro w hw
  have ht := absd_tri x (cl (3 * f + 0)) y
  unfold wayM at hw
  split at hw
  · exact absurd hw List.not_mem_nil
  · dsimp only at hw
    rcases List.mem_cons.mp hw with h | h
    · rw [h]; dsimp only; split <;> omega
    · split at h
      · rcases List.mem_cons.mp h with h2 | h2
        · rw [h2]; dsimp only; split <;> omega
        · exact absurd h2 List.not_mem_nil
      · exact absurd h List.not_mem_nil
theorem waysM_min (cl : Nat → Nat) (air sn x y nc : Nat) : ∀ w, w ∈ waysM cl air sn x y nc → absd x y ≤ w.1 := by
  induction nc with
  | zero =>
    intro w hw
    rcases List.mem_cons.mp hw with h | h
    · rw [h]; exact Nat.le_refl _
    · exact absurd h List.not_mem_nil
  | succ f ih =>
    intro w hw
    rcases List.mem_append.mp hw with h | h
    · exact ih w h
    · exact wayM_min w h
theorem it_gt {cl : Nat → Nat} {air sn x y nc : Nat} {tk : Nat → Nat} {n sc : Nat} (hxy : absd x y ≤ 40) (hn : n ≤ 6) : itM (waysM cl air sn x y nc) (absd x y) (lineM sc n) tk n = gtM (waysM cl air sn x y nc) (absd x y) sc n tk :=
  allB_cg (fun k hk => by
    unfold itB gtB
    have e := tkM_hos (L := waysM cl air sn x y nc) (ln := lineM sc n) (b := absd x y + k) (by omega) n
    rw [hosP_end (waysM_min cl air sn x y nc) n hk] at e
    rw [← e])
set_option maxRecDepth 100000 in
theorem wiM_6 : ∀ k, k < 4096 → wiM k ≤ 6 := by decide +kernel
def lsv (p : Int × Nat) : Int := if p.1 < 0 then -4 else (p.2 : Int)
theorem lsv_bd (ok : Nat → Bool) (n : Nat) : -4 ≤ lsv (bsM ok n) ∧ lsv (bsM ok n) ≤ 12 := by
  have h := bsM_bd ok n
  unfold lsv; split <;> omega
theorem lsv_nat (s k : Nat) : lsv ((s : Int), k) = (k : Int) := by unfold lsv; rw [if_neg (by dsimp only; omega)]
theorem bsM_neg {ok : Nat → Bool} (n : Nat) : (bsM ok n).1 < 0 → (bsM ok n).2 = 7 := by
  induction n with
  | zero => intro _; rfl
  | succ s ih =>
    by_cases h : wiM s < (bsM ok s).2 ∧ ok s = true
    · rw [bsM_t h.1 h.2]; intro h2; dsimp only at h2; omega
    · rw [show bsM ok (s + 1) = bsM ok s from if_neg h]; exact ih
theorem bsM_val {ok : Nat → Bool} {sd : Nat} (n : Nat) : (bsM ok n).1 = (sd : Int) → (bsM ok n).2 = wiM sd := by
  induction n with
  | zero => intro h; exact absurd h (by show ¬ (-4 : Int) = _; omega)
  | succ s ih =>
    by_cases h : wiM s < (bsM ok s).2 ∧ ok s = true
    · rw [bsM_t h.1 h.2]; intro h2; dsimp only at h2 ⊢; rw [show sd = s from by omega]
    · rw [show bsM ok (s + 1) = bsM ok s from if_neg h]; exact ih
theorem rbs_t {ok : Nat → Bool} {s : Nat} (h : (bsM ok s).1 < 0 ∨ (wiM s : Int) < lsv (bsM ok s)) (h2 : ok s = true) (h3 : s < 4096) : bsM ok (s + 1) = ((s : Int), wiM s) := by
  refine bsM_t ?_ h2
  have h6 := wiM_6 s h3
  by_cases hn : (bsM ok s).1 < 0
  · rw [bsM_neg s hn]; omega
  · rcases h with h | h
    · exact absurd h hn
    · unfold lsv at h; rw [if_neg hn] at h; omega
theorem rbs_f {ok : Nat → Bool} {s : Nat} (h : (0 ≤ (bsM ok s).1 ∧ lsv (bsM ok s) ≤ (wiM s : Int)) ∨ ok s = false) : bsM ok (s + 1) = bsM ok s := by
  refine bsM_f ?_
  rcases h with h | h
  · left
    have h2 := h.2
    unfold lsv at h2; rw [if_neg (by omega)] at h2; omega
  · exact Or.inr h

set_option maxRecDepth 100000 in
set_option maxHeartbeats 4000000 in
theorem c_X7_allWords (l : Launch) (D : va_G) (cI cC : ClassId) (rr : Nat) (ad : Nat → Nat) (len : Nat) (kp : Nat) (uo : Nat) (tm : Nat) (em : Nat) (pc0 : Nat) (wma : Nat → Nat) (hnw : wma 0 ≤ 8) : mtI l D cI cC yX7_allWords wsX7_allWords ({ frames := 0, cells := 0, slots := 0, locals := 0 }) [.ref rr] [(rr, eMod ad len kp uo tm em pc0), (ad 7, eArr cI 4 wma)] (fun (r : Int32) (_ : Unit) => r = (nI (2 ^ (wma 0) - 1))) (fun (_ : Unit) => [(rr, eMod ad len kp uo tm em pc0), (ad 7, eArr cI 4 wma)]) := by
  refine mtI_of (cc := cX7_allWords) (maxL := 1) (ret := (some .int)) (by decide) rfl rfl ?_
  intro p e s m below meth c A hx hb hml hr hts hown hlocks hN hA hK hP hD hS ls hl
  have hown : s.vm.findClass RX7 = some m.cls := hown
  have hl : lv_has ls 1 [(0, .ref rr)] := hl
  obtain ⟨H, hHe⟩ : ∃ H, H = s.heap := ⟨_, rfl⟩
  rw [← hHe] at hP ⊢
  have hS : va_S A s.heap H [] := by rw [hHe]; exact va_S.rf
  have fl28 := hts (.fieldLink RX7 28 "EchoPaysRentModel" "wordMany" "[I") (by decide +kernel)
  have inX7 : ∀ w ∈ wsX70, w ∈ wsX7_allWords := by decide +kernel
  refine lv_iconst (v := (nI 1)) hx hb dX7_allWords_0 (by decide) ?_
  refine lv_aload_n hx hb dX7_allWords_1 rfl (lv_at hl 0 rfl) ?_
  refine va_get (D := D) (ci := 7) (v := .ref (ad 7)) (C := RX7) (T := TX7) (N := 28) hx hb hts inX7 hown hK hP 0 rfl rfl 7 (by decide) fl28 (fun _ h9 => h9) rfl dX7_allWords_2 ?_
  refine lv_iconst (v := (nI 0)) hx hb dX7_allWords_5 (by decide) ?_
  refine x_iald (A := A) hx hb hK hP 1 0 rfl rfl dX7_allWords_6 (by omega) (by omega) ?_
  refine x_shl1 hx hb dX7_allWords_7 (by omega) ?_
  refine lv_iconst (v := (nI 1)) hx hb dX7_allWords_8 (by decide) ?_
  refine x_isub hx hb dX7_allWords_9 (Nat.one_le_two_pow) ?_
  exact x_iret hx hb hr hlocks dX7_allWords_10 rfl (post := fun (r : Int32) (_ : Unit) => r = (nI (2 ^ (wma 0) - 1))) (w1 := fun (_ : Unit) => [(rr, eMod ad len kp uo tm em pc0), (ad 7, eArr cI 4 wma)]) () rfl hK hP hD hS

set_option maxRecDepth 100000 in
set_option maxHeartbeats 4000000 in
theorem c_X7_takeLines (l : Launch) (D : va_G) (cI cC : ClassId) (rr : Nat) (ad : Nat → Nat) (len : Nat) (kp : Nat) (uo : Nat) (tm : Nat) (em : Nat) (pc0 : Nat) (li : Nat → Nat) (code : Nat) (hco : code < 4096) (htm6 : tm ≤ 6) : mtI l D cI cC yX7_takeLines wsX7_takeLines ({ frames := 0, cells := 0, slots := 0, locals := 0 }) [.ref rr, .int (nI code)] [(rr, eMod ad len kp uo tm em pc0), (ad 22, eArr cI 6 li)] (fun (r : Int32) (_ : Unit) => r = (nI (dgM code tm))) (fun (_ : Unit) => [(rr, eMod ad len kp uo tm em pc0), (ad 22, eArr cI 6 (tlM li code tm tm))]) := by
  refine mtI_of (cc := cX7_takeLines) (maxL := 5) (ret := (some .int)) (by decide) rfl rfl ?_
  intro p e s m below meth c A hx hb hml hr hts hown hlocks hN hA hK hP hD hS ls hl
  have hown : s.vm.findClass RX7 = some m.cls := hown
  have hl : lv_has ls 5 [(0, .ref rr), (1, .int (nI code))] := hl
  obtain ⟨H, hHe⟩ : ∃ H, H = s.heap := ⟨_, rfl⟩
  rw [← hHe] at hP ⊢
  have hS : va_S A s.heap H [] := by rw [hHe]; exact va_S.rf
  have fl148 := hts (.fieldLink RX7 148 "EchoPaysRentModel" "talkMany" "I") (by decide +kernel)
  have inX7 : ∀ w ∈ wsX70, w ∈ wsX7_takeLines := by decide +kernel
  have fl73 := hts (.fieldLink RX7 73 "EchoPaysRentModel" "lines" "[I") (by decide +kernel)
  refine lv_iload_n hx hb dX7_takeLines_0 rfl (lv_at hl 1 rfl) ?_
  refine lv_istore_n (lv' := [(2, .int (nI code)), (0, .ref rr), (1, .int (nI code))]) hx hb dX7_takeLines_1 rfl hl (by decide) rfl (fun ls hl => ?_)
  refine lv_iconst (v := (nI 0)) hx hb dX7_takeLines_2 (by decide) ?_
  refine lv_istore_n (lv' := [(3, .int (nI 0)), (2, .int (nI code)), (0, .ref rr), (1, .int (nI code))]) hx hb dX7_takeLines_3 rfl hl (by decide) rfl (fun ls hl => ?_)
  refine lv_aload_n hx hb dX7_takeLines_4 rfl (lv_at hl 2 rfl) ?_
  refine va_get (D := D) (ci := 7) (v := .int (nI tm)) (C := RX7) (T := TX7) (N := 28) hx hb hts inX7 hown hK hP 0 rfl rfl 17 (by decide) fl148 (fun _ h9 => h9) rfl dX7_takeLines_5 ?_
  refine lv_iconst (v := (nI 1)) hx hb dX7_takeLines_8 (by decide) ?_
  refine x_isubZ hx hb dX7_takeLines_9 ?_
  refine lv_istore (lv' := [(4, .int (iI (((tm : Nat) : Int) - ((1 : Nat) : Int)))), (3, .int (nI 0)), (2, .int (nI code)), (0, .ref rr), (1, .int (nI code))]) hx hb dX7_takeLines_10 hl (by decide) rfl (fun ls hl => ?_)
  have loop12 : ∀ (nn12 : Nat) (mm : Nat), tm - mm < nn12 → (mm ≤ tm) → ∀ (H : Heap) (locs : List Loc), va_P D vwCl [(rr, eMod ad len kp uo tm em pc0), (ad 22, eArr cI 6 (tlM li code tm mm))] H → va_D A [(rr, eMod ad len kp uo tm em pc0), (ad 22, eArr cI 6 (tlM li code tm mm))] → va_S A s.heap H locs → ∀ ls : Array Slot, lv_has ls 5 [(4, .int (iI ((tm : Int) - 1 - ((mm : Nat) : Int)))), (3, .int (nI (dgM code mm))), (2, .int (nI (code / 2 ^ (2 * mm)))), (0, .ref rr)] → W p l e (headSpec wsX7_takeLines ({ frames := 0, cells := 0, slots := 0, locals := 0 })).room s m ([.ref rr, .int (nI code)] : List Value).toArray below meth c H locs 0 0 (MQ below (va_Qi (fun (r : Int32) (_ : Unit) => r = (nI (dgM code tm))) (ctB D cI cC (fun (_ : Unit) => [(rr, eMod ad len kp uo tm em pc0), (ad 22, eArr cI 6 (tlM li code tm tm))]) A) A) ([.ref rr, .int (nI code)] : List Value).toArray s 0 0 A) (F0 m 12 ls []) := by
    intro nn12
    induction nn12 with
    | zero =>
      intro mm hm1
      exact absurd hm1 (Nat.not_lt_zero _)
    | succ nn12 ih12 =>
      intro mm hm1 hi2 H locs hP hD hS ls hl
      refine lv_iload hx hb dX7_takeLines_12 (lv_at hl 0 rfl) ?_
      refine z_if_lt (tgt := 51) hx hb dX7_takeLines_14 (by decide) (by omega) (fun h3 => ?_) (fun h3 => ?_)
      · have e4 : tm = mm := by omega
        subst e4
        refine lv_iload_n hx hb dX7_takeLines_51 rfl (lv_at hl 1 rfl) ?_
        exact x_iret hx hb hr hlocks dX7_takeLines_52 rfl (post := fun (r : Int32) (_ : Unit) => r = (nI (dgM code tm))) (w1 := fun (_ : Unit) => [(rr, eMod ad len kp uo tm em pc0), (ad 22, eArr cI 6 (tlM li code tm tm))]) () rfl hK hP hD hS
      · rw [show (iI ((tm : Int) - 1 - ((mm : Nat) : Int))) = (nI (tm - 1 - mm)) from by rw [nI_iI]; exact congrArg iI (by omega)] at hl
        have f5 : code / 2 ^ (2 * mm) ≤ code := Nat.div_le_self _ _
        have f6 : dgM code mm ≤ mm := dgM_le code mm
        refine lv_aload_n hx hb dX7_takeLines_17 rfl (lv_at hl 3 rfl) ?_
        refine va_get (D := D) (ci := 7) (v := .ref (ad 22)) (C := RX7) (T := TX7) (N := 28) hx hb hts inX7 hown hK hP 0 rfl rfl 27 (by decide) fl73 (fun _ h9 => h9) rfl dX7_takeLines_18 ?_
        refine lv_iload hx hb dX7_takeLines_21 (lv_at hl 0 rfl) ?_
        refine lv_iload_n hx hb dX7_takeLines_23 rfl (lv_at hl 2 rfl) ?_
        refine lv_iconst (v := (nI 4)) hx hb dX7_takeLines_24 (by decide) ?_
        refine x_irem hx hb dX7_takeLines_25 (by omega) (by omega) (by omega) ?_
        refine x_iast (A := A) hx hb hK hP hD hS 1 0 rfl rfl dX7_takeLines_26 (by omega) (by omega) (fun H locs hP hD hS => ?_)
        have hP : va_P D vwCl [(rr, eMod ad len kp uo tm em pc0), (ad 22, eArr cI 6 (upN (tlM li code tm mm) (tm - 1 - mm) ((code / 2 ^ (2 * mm)) % 4)))] H := by have h := hP; rw [upd_nI] at h; exact h
        have hD : va_D A [(rr, eMod ad len kp uo tm em pc0), (ad 22, eArr cI 6 (upN (tlM li code tm mm) (tm - 1 - mm) ((code / 2 ^ (2 * mm)) % 4)))] := by have h := hD; rw [upd_nI] at h; exact h
        refine lv_iload_n hx hb dX7_takeLines_27 rfl (lv_at hl 1 rfl) ?_
        refine lv_iload_n hx hb dX7_takeLines_28 rfl (lv_at hl 2 rfl) ?_
        refine lv_iconst (v := (nI 4)) hx hb dX7_takeLines_29 (by decide) ?_
        refine x_irem hx hb dX7_takeLines_30 (by omega) (by omega) (by omega) ?_
        refine x_if_ne (tgt := 38) hx hb dX7_takeLines_31 (by decide) (by omega) (fun h7 => ?_) (fun h7 => ?_)
        · refine lv_iconst (v := (nI 1)) hx hb dX7_takeLines_38 (by decide) ?_
          refine x_iadd hx hb dX7_takeLines_39 ?_
          refine lv_istore_n (lv' := [(3, .int (nI (dgM code mm + 1))), (4, .int (nI (tm - 1 - mm))), (2, .int (nI (code / 2 ^ (2 * mm)))), (0, .ref rr)]) hx hb dX7_takeLines_40 rfl hl (by decide) rfl (fun ls hl => ?_)
          refine lv_iload_n hx hb dX7_takeLines_41 rfl (lv_at hl 2 rfl) ?_
          refine lv_iconst (v := (nI 4)) hx hb dX7_takeLines_42 (by decide) ?_
          refine x_idiv hx hb dX7_takeLines_43 (by omega) (by omega) (by omega) ?_
          refine lv_istore_n (lv' := [(2, .int (nI ((code / 2 ^ (2 * mm)) / 4))), (3, .int (nI (dgM code mm + 1))), (4, .int (nI (tm - 1 - mm))), (0, .ref rr)]) hx hb dX7_takeLines_44 rfl hl (by decide) rfl (fun ls hl => ?_)
          rw [show (nI (tm - 1 - mm)) = (iI ((tm : Int) - 1 - ((mm : Nat) : Int))) from by rw [nI_iI]; exact congrArg iI (by omega)] at hl
          rw [show (nI ((code / 2 ^ (2 * mm)) / 4)) = (nI (code / 2 ^ (2 * (mm + 1)))) from congrArg nI (pow_next code mm)] at hl
          refine lv_iinc (v := (iI ((tm : Int) - 1 - ((mm : Nat) : Int) + (-1)))) (lv' := [(4, .int (iI ((tm : Int) - 1 - ((mm : Nat) : Int) + (-1)))), (2, .int (nI (code / 2 ^ (2 * (mm + 1))))), (3, .int (nI (dgM code mm + 1))), (0, .ref rr)]) hx hb dX7_takeLines_45 hl (k := 2) rfl (iI_add _ (-1)) (by decide) rfl (fun ls hl => ?_)
          refine lv_goto (tgt := 12) hx hb dX7_takeLines_48 (by decide) ?_
          have hP : va_P D vwCl [(rr, eMod ad len kp uo tm em pc0), (ad 22, eArr cI 6 (tlM li code tm (mm + 1)))] H := by rw [tlM_s (by omega)]; exact hP
          have hD : va_D A [(rr, eMod ad len kp uo tm em pc0), (ad 22, eArr cI 6 (tlM li code tm (mm + 1)))] := by rw [tlM_s (by omega)]; exact hD
          rw [show (iI ((tm : Int) - 1 - ((mm : Nat) : Int) + (-1))) = (iI ((tm : Int) - 1 - ((mm + 1 : Nat) : Int))) from congrArg iI (by omega)] at hl
          rw [show (nI (dgM code mm + 1)) = (nI (dgM code (mm + 1))) from congrArg nI (dgM_n (by omega)).symm] at hl
          exact ih12 (mm + 1) (by omega) (by omega) _ _ (hP.sub [0, 1] rfl) (hD.sub [0, 1] rfl rfl) hS _ (lv_sub hl [0, 2, 1, 3] rfl)
        · refine lv_iconst (v := (nI 0)) hx hb dX7_takeLines_34 (by decide) ?_
          refine lv_goto (tgt := 39) hx hb dX7_takeLines_35 (by decide) ?_
          refine x_iadd hx hb dX7_takeLines_39 ?_
          refine lv_istore_n (lv' := [(3, .int (nI (dgM code mm + 0))), (4, .int (nI (tm - 1 - mm))), (2, .int (nI (code / 2 ^ (2 * mm)))), (0, .ref rr)]) hx hb dX7_takeLines_40 rfl hl (by decide) rfl (fun ls hl => ?_)
          refine lv_iload_n hx hb dX7_takeLines_41 rfl (lv_at hl 2 rfl) ?_
          refine lv_iconst (v := (nI 4)) hx hb dX7_takeLines_42 (by decide) ?_
          refine x_idiv hx hb dX7_takeLines_43 (by omega) (by omega) (by omega) ?_
          refine lv_istore_n (lv' := [(2, .int (nI ((code / 2 ^ (2 * mm)) / 4))), (3, .int (nI (dgM code mm + 0))), (4, .int (nI (tm - 1 - mm))), (0, .ref rr)]) hx hb dX7_takeLines_44 rfl hl (by decide) rfl (fun ls hl => ?_)
          rw [show (nI (tm - 1 - mm)) = (iI ((tm : Int) - 1 - ((mm : Nat) : Int))) from by rw [nI_iI]; exact congrArg iI (by omega)] at hl
          rw [show (nI ((code / 2 ^ (2 * mm)) / 4)) = (nI (code / 2 ^ (2 * (mm + 1)))) from congrArg nI (pow_next code mm)] at hl
          refine lv_iinc (v := (iI ((tm : Int) - 1 - ((mm : Nat) : Int) + (-1)))) (lv' := [(4, .int (iI ((tm : Int) - 1 - ((mm : Nat) : Int) + (-1)))), (2, .int (nI (code / 2 ^ (2 * (mm + 1))))), (3, .int (nI (dgM code mm + 0))), (0, .ref rr)]) hx hb dX7_takeLines_45 hl (k := 2) rfl (iI_add _ (-1)) (by decide) rfl (fun ls hl => ?_)
          refine lv_goto (tgt := 12) hx hb dX7_takeLines_48 (by decide) ?_
          have hP : va_P D vwCl [(rr, eMod ad len kp uo tm em pc0), (ad 22, eArr cI 6 (tlM li code tm (mm + 1)))] H := by rw [tlM_s (by omega)]; exact hP
          have hD : va_D A [(rr, eMod ad len kp uo tm em pc0), (ad 22, eArr cI 6 (tlM li code tm (mm + 1)))] := by rw [tlM_s (by omega)]; exact hD
          rw [show (iI ((tm : Int) - 1 - ((mm : Nat) : Int) + (-1))) = (iI ((tm : Int) - 1 - ((mm + 1 : Nat) : Int))) from congrArg iI (by omega)] at hl
          rw [show (nI (dgM code mm + 0)) = (nI (dgM code (mm + 1))) from congrArg nI (dgM_z (by omega)).symm] at hl
          exact ih12 (mm + 1) (by omega) (by omega) _ _ (hP.sub [0, 1] rfl) (hD.sub [0, 1] rfl rfl) hS _ (lv_sub hl [0, 2, 1, 3] rfl)
  have hP : va_P D vwCl [(rr, eMod ad len kp uo tm em pc0), (ad 22, eArr cI 6 (tlM li code tm 0))] H := by rw [tlM_0]; exact hP
  have hD : va_D A [(rr, eMod ad len kp uo tm em pc0), (ad 22, eArr cI 6 (tlM li code tm 0))] := by rw [tlM_0]; exact hD
  rw [show (iI (((tm : Nat) : Int) - ((1 : Nat) : Int))) = (iI ((tm : Int) - 1 - ((0 : Nat) : Int))) from congrArg iI (by omega)] at hl
  rw [show (nI code) = (nI (code / 2 ^ (2 * 0))) from congrArg nI (by rw [Nat.mul_zero, Nat.pow_zero, Nat.div_one])] at hl
  rw [show (nI 0) = (nI (dgM code 0)) from rfl] at hl
  exact loop12 _ 0 (Nat.lt_succ_self _) (by omega) _ _ (hP.sub [0, 1] rfl) (hD.sub [0, 1] rfl rfl) hS _ (lv_sub hl [0, 1, 2, 3] rfl)

set_option maxRecDepth 100000 in
set_option maxHeartbeats 4000000 in
theorem c_X7_isTalk (l : Launch) (D : va_G) (cI cC : ClassId) (rr : Nat) (ad : Nat → Nat) (len : Nat) (kp : Nat) (uo : Nat) (tm : Nat) (em : Nat) (pc0 : Nat) (fm : Nat → Nat) (pq : Nat → Nat) (dq : Nat → Nat) (kq : Nat → Nat) (ai : Nat → Nat) (sna : Nat → Nat) (spa : Nat → Nat) (hea : Nat → Nat) (lg : Nat → Nat) (vg : Nat → Nat) (cl : Nat → Nat) (hrc : relC pq dq kq cl (fm 0)) (hok : okC cl (fm 0)) (hfm : fm 0 ≤ 4 ∧ ai 0 ≤ 99 ∧ sna 0 < 2147483648) (li : Nat → Nat) (tk : Nat → Nat) (hli : ∀ j, j < tm → li j ≤ 3) (htk : ∀ j, j < tm → tk j ≤ 3) (htm6 : tm ≤ 6) (hsp : spa 0 ≤ 40 ∧ hea 0 ≤ 40) : mtI l D cI cC yX7_isTalk wsX7_isTalk ({ frames := 3, cells := 0, slots := 0, locals := 74 }) [.ref rr] [(rr, eMod ad len kp uo tm em pc0), (ad 2, eArr cI 2 fm), (ad 3, eArr cI 8 pq), (ad 4, eArr cI 8 dq), (ad 5, eArr cI 8 kq), (ad 6, eArr cI 2 ai), (ad 13, eArr cI 4 sna), (ad 11, eArr cI 4 spa), (ad 12, eArr cI 4 hea), (ad 20, eArr cI 150 lg), (ad 21, eArr cI 150 vg), (ad 22, eArr cI 6 li), (ad 15, eArr cI 6 tk)] (fun (r : Int32) (_ : Unit) => (r = (nI 1) ∧ itM (waysM cl (ai 0) (sna 0) (spa 0) (hea 0) (fm 0)) (absd (spa 0) (hea 0)) li tk tm = true) ∨ (r = (nI 0) ∧ itM (waysM cl (ai 0) (sna 0) (spa 0) (hea 0) (fm 0)) (absd (spa 0) (hea 0)) li tk tm = false)) (fun (_ : Unit) => [(rr, eMod ad len kp uo tm em pc0), (ad 2, eArr cI 2 fm), (ad 3, eArr cI 8 pq), (ad 4, eArr cI 8 dq), (ad 5, eArr cI 8 kq), (ad 6, eArr cI 2 ai), (ad 13, eArr cI 4 sna), (ad 11, eArr cI 4 spa), (ad 12, eArr cI 4 hea), (ad 20, eArr cI 150 ((tkM (waysM cl (ai 0) (sna 0) (spa 0) (hea 0) (fm 0)) li tm).1)), (ad 21, eArr cI 150 ((tkM (waysM cl (ai 0) (sna 0) (spa 0) (hea 0) (fm 0)) li tm).2)), (ad 22, eArr cI 6 li), (ad 15, eArr cI 6 tk)]) := by
  refine mtI_of (cc := cX7_isTalk) (maxL := 3) (ret := (some .boolean)) (by decide) rfl rfl ?_
  intro p e s m below meth c A hx hb hml hr hts hown hlocks hN hA hK hP hD hS ls hl
  have hown : s.vm.findClass RX7 = some m.cls := hown
  have hl : lv_has ls 3 [(0, .ref rr)] := hl
  obtain ⟨H, hHe⟩ : ∃ H, H = s.heap := ⟨_, rfl⟩
  rw [← hHe] at hP ⊢
  have hS : va_S A s.heap H [] := by rw [hHe]; exact va_S.rf
  have fl148 := hts (.fieldLink RX7 148 "EchoPaysRentModel" "talkMany" "I") (by decide +kernel)
  have inX7 : ∀ w ∈ wsX70, w ∈ wsX7_isTalk := by decide +kernel
  have fl70 := hts (.fieldLink RX7 70 "EchoPaysRentModel" "what" "[I") (by decide +kernel)
  have fl40 := hts (.fieldLink RX7 40 "EchoPaysRentModel" "speaker" "[I") (by decide +kernel)
  have fl43 := hts (.fieldLink RX7 43 "EchoPaysRentModel" "hearer" "[I") (by decide +kernel)
  have fl52 := hts (.fieldLink RX7 52 "EchoPaysRentModel" "talk" "[I") (by decide +kernel)
  have fl73 := hts (.fieldLink RX7 73 "EchoPaysRentModel" "lines" "[I") (by decide +kernel)
  refine lv_aload_n hx hb dX7_isTalk_0 rfl (lv_at hl 0 rfl) ?_
  refine k_Vv (q := (RX7, TX7, 28)) (ci := 7) (As := []) (wr := [(ad 2, eArr cI 2 fm), (ad 3, eArr cI 8 pq), (ad 4, eArr cI 8 dq), (ad 5, eArr cI 8 kq), (ad 6, eArr cI 2 ai), (ad 13, eArr cI 4 sna), (ad 11, eArr cI 4 spa), (ad 12, eArr cI 4 hea), (ad 22, eArr cI 6 li), (ad 15, eArr cI 6 tk)]) ⟨hx, hb, hml, hown, hts⟩ (c_X7_quiet l D cI cC rr ad len kp uo tm em pc0 lg vg) (cwV 0 hts gX7_isTalk_X7_quiet rfl rfl rfl (by decide +kernel) ⟨Nat.le_of_ble_eq_true rfl, Nat.le_of_ble_eq_true rfl⟩) rfl hl.1 rfl (Nat.le_of_ble_eq_true rfl) dX7_isTalk_1 ⟨Nat.zero_le _, Nat.zero_le _⟩ hN hK hP hD hS hA rfl (q0 := 0) rfl [0, 9, 10] [1, 2, 3, 4, 5, 6, 7, 8, 11, 12] rfl rfl ⟨rfl, rfl, by decide⟩ (fun u H locs w2 hP hD hS => ?_)
  refine lv_iconst (v := (nI 0)) hx hb dX7_isTalk_4 (by decide) ?_
  refine lv_istore_n (lv' := [(1, .int (nI 0)), (0, .ref rr)]) hx hb dX7_isTalk_5 rfl hl (by decide) rfl (fun ls hl => ?_)
  have loop6 : ∀ (nn6 : Nat) (k : Nat), tm - k < nn6 → (k ≤ tm) → ∀ (H : Heap) (locs : List Loc), va_P D vwCl [(rr, eMod ad len kp uo tm em pc0), (ad 2, eArr cI 2 fm), (ad 3, eArr cI 8 pq), (ad 4, eArr cI 8 dq), (ad 5, eArr cI 8 kq), (ad 6, eArr cI 2 ai), (ad 13, eArr cI 4 sna), (ad 11, eArr cI 4 spa), (ad 12, eArr cI 4 hea), (ad 20, eArr cI 150 ((tkM (waysM cl (ai 0) (sna 0) (spa 0) (hea 0) (fm 0)) li k).1)), (ad 21, eArr cI 150 ((tkM (waysM cl (ai 0) (sna 0) (spa 0) (hea 0) (fm 0)) li k).2)), (ad 22, eArr cI 6 li), (ad 15, eArr cI 6 tk)] H → va_D A [(rr, eMod ad len kp uo tm em pc0), (ad 2, eArr cI 2 fm), (ad 3, eArr cI 8 pq), (ad 4, eArr cI 8 dq), (ad 5, eArr cI 8 kq), (ad 6, eArr cI 2 ai), (ad 13, eArr cI 4 sna), (ad 11, eArr cI 4 spa), (ad 12, eArr cI 4 hea), (ad 20, eArr cI 150 ((tkM (waysM cl (ai 0) (sna 0) (spa 0) (hea 0) (fm 0)) li k).1)), (ad 21, eArr cI 150 ((tkM (waysM cl (ai 0) (sna 0) (spa 0) (hea 0) (fm 0)) li k).2)), (ad 22, eArr cI 6 li), (ad 15, eArr cI 6 tk)] → va_S A s.heap H locs → ∀ ls : Array Slot, lv_has ls 3 [(1, .int (nI k)), (0, .ref rr)] → W p l e (headSpec wsX7_isTalk ({ frames := 3, cells := 0, slots := 0, locals := 74 })).room s m ([.ref rr] : List Value).toArray below meth c H locs 0 0 (MQ below (va_Qi (fun (r : Int32) (_ : Unit) => (r = (nI 1) ∧ itM (waysM cl (ai 0) (sna 0) (spa 0) (hea 0) (fm 0)) (absd (spa 0) (hea 0)) li tk tm = true) ∨ (r = (nI 0) ∧ itM (waysM cl (ai 0) (sna 0) (spa 0) (hea 0) (fm 0)) (absd (spa 0) (hea 0)) li tk tm = false)) (ctB D cI cC (fun (_ : Unit) => [(rr, eMod ad len kp uo tm em pc0), (ad 2, eArr cI 2 fm), (ad 3, eArr cI 8 pq), (ad 4, eArr cI 8 dq), (ad 5, eArr cI 8 kq), (ad 6, eArr cI 2 ai), (ad 13, eArr cI 4 sna), (ad 11, eArr cI 4 spa), (ad 12, eArr cI 4 hea), (ad 20, eArr cI 150 ((tkM (waysM cl (ai 0) (sna 0) (spa 0) (hea 0) (fm 0)) li tm).1)), (ad 21, eArr cI 150 ((tkM (waysM cl (ai 0) (sna 0) (spa 0) (hea 0) (fm 0)) li tm).2)), (ad 22, eArr cI 6 li), (ad 15, eArr cI 6 tk)]) A) A) ([.ref rr] : List Value).toArray s 0 0 A) (F0 m 6 ls []) := by
    intro nn6
    induction nn6 with
    | zero =>
      intro k hm3
      exact absurd hm3 (Nat.not_lt_zero _)
    | succ nn6 ih6 =>
      intro k hm3 hi4 H locs hP hD hS ls hl
      refine lv_iload_n hx hb dX7_isTalk_6 rfl (lv_at hl 0 rfl) ?_
      refine lv_aload_n hx hb dX7_isTalk_7 rfl (lv_at hl 1 rfl) ?_
      refine va_get (D := D) (ci := 7) (v := .int (nI tm)) (C := RX7) (T := TX7) (N := 28) hx hb hts inX7 hown hK hP 0 rfl rfl 17 (by decide) fl148 (fun _ h9 => h9) rfl dX7_isTalk_8 ?_
      refine x_icmp_ge (tgt := 54) hx hb dX7_isTalk_11 (by decide) (by omega) (by omega) (fun h5 => ?_) (fun h5 => ?_)
      · have e6 : tm = k := by omega
        subst e6
        refine lv_iconst (v := (nI 1)) hx hb dX7_isTalk_54 (by decide) ?_
        refine lv_istore_n (lv' := [(1, .int (nI 1)), (0, .ref rr)]) hx hb dX7_isTalk_55 rfl hl (by decide) rfl (fun ls hl => ?_)
        refine lv_iconst (v := (nI 0)) hx hb dX7_isTalk_56 (by decide) ?_
        refine lv_istore_n (lv' := [(2, .int (nI 0)), (1, .int (nI 1)), (0, .ref rr)]) hx hb dX7_isTalk_57 rfl hl (by decide) rfl (fun ls hl => ?_)
        have loop58 : ∀ (nn58 : Nat) (k : Nat) (q : Nat), tm - k < nn58 → (k ≤ tm) → ((q = 1 ∧ allB (itB (waysM cl (ai 0) (sna 0) (spa 0) (hea 0) (fm 0)) (absd (spa 0) (hea 0)) li tk tm) k = true) ∨ (q = 0 ∧ allB (itB (waysM cl (ai 0) (sna 0) (spa 0) (hea 0) (fm 0)) (absd (spa 0) (hea 0)) li tk tm) k = false)) → (q ≤ 1) → ∀ (H : Heap) (locs : List Loc), va_P D vwCl [(rr, eMod ad len kp uo tm em pc0), (ad 2, eArr cI 2 fm), (ad 3, eArr cI 8 pq), (ad 4, eArr cI 8 dq), (ad 5, eArr cI 8 kq), (ad 6, eArr cI 2 ai), (ad 13, eArr cI 4 sna), (ad 11, eArr cI 4 spa), (ad 12, eArr cI 4 hea), (ad 20, eArr cI 150 ((tkM (waysM cl (ai 0) (sna 0) (spa 0) (hea 0) (fm 0)) li tm).1)), (ad 21, eArr cI 150 ((tkM (waysM cl (ai 0) (sna 0) (spa 0) (hea 0) (fm 0)) li tm).2)), (ad 22, eArr cI 6 li), (ad 15, eArr cI 6 tk)] H → va_D A [(rr, eMod ad len kp uo tm em pc0), (ad 2, eArr cI 2 fm), (ad 3, eArr cI 8 pq), (ad 4, eArr cI 8 dq), (ad 5, eArr cI 8 kq), (ad 6, eArr cI 2 ai), (ad 13, eArr cI 4 sna), (ad 11, eArr cI 4 spa), (ad 12, eArr cI 4 hea), (ad 20, eArr cI 150 ((tkM (waysM cl (ai 0) (sna 0) (spa 0) (hea 0) (fm 0)) li tm).1)), (ad 21, eArr cI 150 ((tkM (waysM cl (ai 0) (sna 0) (spa 0) (hea 0) (fm 0)) li tm).2)), (ad 22, eArr cI 6 li), (ad 15, eArr cI 6 tk)] → va_S A s.heap H locs → ∀ ls : Array Slot, lv_has ls 3 [(2, .int (nI k)), (1, .int (nI q)), (0, .ref rr)] → W p l e (headSpec wsX7_isTalk ({ frames := 3, cells := 0, slots := 0, locals := 74 })).room s m ([.ref rr] : List Value).toArray below meth c H locs 0 0 (MQ below (va_Qi (fun (r : Int32) (_ : Unit) => (r = (nI 1) ∧ itM (waysM cl (ai 0) (sna 0) (spa 0) (hea 0) (fm 0)) (absd (spa 0) (hea 0)) li tk tm = true) ∨ (r = (nI 0) ∧ itM (waysM cl (ai 0) (sna 0) (spa 0) (hea 0) (fm 0)) (absd (spa 0) (hea 0)) li tk tm = false)) (ctB D cI cC (fun (_ : Unit) => [(rr, eMod ad len kp uo tm em pc0), (ad 2, eArr cI 2 fm), (ad 3, eArr cI 8 pq), (ad 4, eArr cI 8 dq), (ad 5, eArr cI 8 kq), (ad 6, eArr cI 2 ai), (ad 13, eArr cI 4 sna), (ad 11, eArr cI 4 spa), (ad 12, eArr cI 4 hea), (ad 20, eArr cI 150 ((tkM (waysM cl (ai 0) (sna 0) (spa 0) (hea 0) (fm 0)) li tm).1)), (ad 21, eArr cI 150 ((tkM (waysM cl (ai 0) (sna 0) (spa 0) (hea 0) (fm 0)) li tm).2)), (ad 22, eArr cI 6 li), (ad 15, eArr cI 6 tk)]) A) A) ([.ref rr] : List Value).toArray s 0 0 A) (F0 m 58 ls []) := by
          intro nn58
          induction nn58 with
          | zero =>
            intro k q hm7
            exact absurd hm7 (Nat.not_lt_zero _)
          | succ nn58 ih58 =>
            intro k q hm7 hi8 hcase hi9 H locs hP hD hS ls hl
            refine lv_iload_n hx hb dX7_isTalk_58 rfl (lv_at hl 0 rfl) ?_
            refine lv_aload_n hx hb dX7_isTalk_59 rfl (lv_at hl 2 rfl) ?_
            refine va_get (D := D) (ci := 7) (v := .int (nI tm)) (C := RX7) (T := TX7) (N := 28) hx hb hts inX7 hown hK hP 0 rfl rfl 17 (by decide) fl148 (fun _ h9 => h9) rfl dX7_isTalk_60 ?_
            refine x_icmp_ge (tgt := 113) hx hb dX7_isTalk_63 (by decide) (by omega) (by omega) (fun h10 => ?_) (fun h10 => ?_)
            · rcases hcase with hc | hc
              · rw [hc.1] at hl
                refine lv_iload_n hx hb dX7_isTalk_113 rfl (lv_at hl 1 rfl) ?_
                exact x_iret hx hb hr hlocks dX7_isTalk_114 rfl (post := fun (r : Int32) (_ : Unit) => (r = (nI 1) ∧ itM (waysM cl (ai 0) (sna 0) (spa 0) (hea 0) (fm 0)) (absd (spa 0) (hea 0)) li tk tm = true) ∨ (r = (nI 0) ∧ itM (waysM cl (ai 0) (sna 0) (spa 0) (hea 0) (fm 0)) (absd (spa 0) (hea 0)) li tk tm = false)) (w1 := fun (_ : Unit) => [(rr, eMod ad len kp uo tm em pc0), (ad 2, eArr cI 2 fm), (ad 3, eArr cI 8 pq), (ad 4, eArr cI 8 dq), (ad 5, eArr cI 8 kq), (ad 6, eArr cI 2 ai), (ad 13, eArr cI 4 sna), (ad 11, eArr cI 4 spa), (ad 12, eArr cI 4 hea), (ad 20, eArr cI 150 ((tkM (waysM cl (ai 0) (sna 0) (spa 0) (hea 0) (fm 0)) li tm).1)), (ad 21, eArr cI 150 ((tkM (waysM cl (ai 0) (sna 0) (spa 0) (hea 0) (fm 0)) li tm).2)), (ad 22, eArr cI 6 li), (ad 15, eArr cI 6 tk)]) () (Or.inl ⟨rfl, by have e : k = tm := (by omega); rw [e] at hc; exact hc.2⟩) hK hP hD hS
              · rw [hc.1] at hl
                refine lv_iload_n hx hb dX7_isTalk_113 rfl (lv_at hl 1 rfl) ?_
                exact x_iret hx hb hr hlocks dX7_isTalk_114 rfl (post := fun (r : Int32) (_ : Unit) => (r = (nI 1) ∧ itM (waysM cl (ai 0) (sna 0) (spa 0) (hea 0) (fm 0)) (absd (spa 0) (hea 0)) li tk tm = true) ∨ (r = (nI 0) ∧ itM (waysM cl (ai 0) (sna 0) (spa 0) (hea 0) (fm 0)) (absd (spa 0) (hea 0)) li tk tm = false)) (w1 := fun (_ : Unit) => [(rr, eMod ad len kp uo tm em pc0), (ad 2, eArr cI 2 fm), (ad 3, eArr cI 8 pq), (ad 4, eArr cI 8 dq), (ad 5, eArr cI 8 kq), (ad 6, eArr cI 2 ai), (ad 13, eArr cI 4 sna), (ad 11, eArr cI 4 spa), (ad 12, eArr cI 4 hea), (ad 20, eArr cI 150 ((tkM (waysM cl (ai 0) (sna 0) (spa 0) (hea 0) (fm 0)) li tm).1)), (ad 21, eArr cI 150 ((tkM (waysM cl (ai 0) (sna 0) (spa 0) (hea 0) (fm 0)) li tm).2)), (ad 22, eArr cI 6 li), (ad 15, eArr cI 6 tk)]) () (Or.inr ⟨rfl, by have e : k = tm := (by omega); rw [e] at hc; exact hc.2⟩) hK hP hD hS
            · rcases hcase with hc | hc
              · rw [hc.1] at hl
                refine lv_iload_n hx hb dX7_isTalk_66 rfl (lv_at hl 1 rfl) ?_
                refine x_if_eq (tgt := 105) hx hb dX7_isTalk_67 (by decide) (by omega) (fun h11 => False.elim (by omega)) (fun h11 => ?_)
                refine lv_aload_n hx hb dX7_isTalk_70 rfl (lv_at hl 2 rfl) ?_
                refine va_get (D := D) (ci := 7) (v := .ref (ad 21)) (C := RX7) (T := TX7) (N := 28) hx hb hts inX7 hown hK hP 0 rfl rfl 26 (by decide) fl70 (fun _ h9 => h9) rfl dX7_isTalk_71 ?_
                refine lv_aload_n hx hb dX7_isTalk_74 rfl (lv_at hl 2 rfl) ?_
                refine va_get (D := D) (ci := 7) (v := .ref (ad 11)) (C := RX7) (T := TX7) (N := 28) hx hb hts inX7 hown hK hP 0 rfl rfl 11 (by decide) fl40 (fun _ h9 => h9) rfl dX7_isTalk_75 ?_
                refine lv_iconst (v := (nI 0)) hx hb dX7_isTalk_78 (by decide) ?_
                refine x_iald (A := A) hx hb hK hP 7 0 rfl rfl dX7_isTalk_79 (by omega) (by omega) ?_
                refine lv_aload_n hx hb dX7_isTalk_80 rfl (lv_at hl 2 rfl) ?_
                refine va_get (D := D) (ci := 7) (v := .ref (ad 12)) (C := RX7) (T := TX7) (N := 28) hx hb hts inX7 hown hK hP 0 rfl rfl 12 (by decide) fl43 (fun _ h9 => h9) rfl dX7_isTalk_81 ?_
                refine lv_iconst (v := (nI 0)) hx hb dX7_isTalk_84 (by decide) ?_
                refine x_iald (A := A) hx hb hK hP 8 0 rfl rfl dX7_isTalk_85 (by omega) (by omega) ?_
                refine k_S (As := [.int (nI (spa 0)), .int (nI (hea 0))]) (wr := [(rr, eMod ad len kp uo tm em pc0), (ad 2, eArr cI 2 fm), (ad 3, eArr cI 8 pq), (ad 4, eArr cI 8 dq), (ad 5, eArr cI 8 kq), (ad 6, eArr cI 2 ai), (ad 13, eArr cI 4 sna), (ad 11, eArr cI 4 spa), (ad 12, eArr cI 4 hea), (ad 20, eArr cI 150 ((tkM (waysM cl (ai 0) (sna 0) (spa 0) (hea 0) (fm 0)) li tm).1)), (ad 21, eArr cI 150 ((tkM (waysM cl (ai 0) (sna 0) (spa 0) (hea 0) (fm 0)) li tm).2)), (ad 22, eArr cI 6 li), (ad 15, eArr cI 6 tk)]) ⟨hx, hb, hml, hown, hts⟩ (c_X7_away l D cI cC (spa 0) (hea 0) (by omega)) (cwS 2 hts gX7_isTalk_X7_away rfl rfl rfl (by decide +kernel) ⟨Nat.le_of_ble_eq_true rfl, Nat.le_of_ble_eq_true rfl⟩) rfl hl.1 rfl (Nat.le_of_ble_eq_true rfl) dX7_isTalk_86 ⟨Nat.zero_le _, Nat.zero_le _⟩ hN hK hP hD hS hA [] [0, 1, 2, 3, 4, 5, 6, 7, 8, 9, 10, 11, 12] rfl rfl ⟨rfl, rfl, by decide⟩ (fun r12 u H locs w13 hP hD hS => ?_)
                obtain rfl : r12 = (nI (absd (spa 0) (hea 0))) := w13
                have f14 : absd (spa 0) (hea 0) ≤ 40 := absd_le (by omega) (by omega)
                have hSb := okS_tk (L := (waysM cl (ai 0) (sna 0) (spa 0) (hea 0) (fm 0))) hli tm (Nat.le_refl tm) (absd (spa 0) (hea 0) + k)
                have htkk := htk k (by omega)
                refine lv_iload_n hx hb dX7_isTalk_89 rfl (lv_at hl 0 rfl) ?_
                refine x_iadd hx hb dX7_isTalk_90 ?_
                refine x_iald (A := A) hx hb hK hP 10 0 rfl rfl dX7_isTalk_91 (by omega) (by omega) ?_
                refine lv_aload_n hx hb dX7_isTalk_92 rfl (lv_at hl 2 rfl) ?_
                refine va_get (D := D) (ci := 7) (v := .ref (ad 15)) (C := RX7) (T := TX7) (N := 28) hx hb hts inX7 hown hK hP 0 rfl rfl 18 (by decide) fl52 (fun _ h9 => h9) rfl dX7_isTalk_93 ?_
                refine lv_iload_n hx hb dX7_isTalk_96 rfl (lv_at hl 0 rfl) ?_
                refine x_iald (A := A) hx hb hK hP 12 0 rfl rfl dX7_isTalk_97 (by omega) (by omega) ?_
                refine x_icmp_ne (tgt := 105) hx hb dX7_isTalk_98 (by decide) (by omega) (by omega) (fun h15 => ?_) (fun h15 => ?_)
                · refine lv_iconst (v := (nI 0)) hx hb dX7_isTalk_105 (by decide) ?_
                  refine lv_istore_n (lv' := [(1, .int (nI 0)), (2, .int (nI k)), (0, .ref rr)]) hx hb dX7_isTalk_106 rfl hl (by decide) rfl (fun ls hl => ?_)
                  refine lv_iinc (v := (nI (k + 1))) (lv' := [(2, .int (nI (k + 1))), (1, .int (nI 0)), (0, .ref rr)]) hx hb dX7_isTalk_107 hl (k := 1) rfl (nI_inc _ 1) (by decide) rfl (fun ls hl => ?_)
                  refine lv_goto (tgt := 58) hx hb dX7_isTalk_110 (by decide) ?_
                  exact ih58 (k + 1) 0 (by omega) (by omega) (Or.inr ⟨rfl, allB_f (p := itB (waysM cl (ai 0) (sna 0) (spa 0) (hea 0) (fm 0)) (absd (spa 0) (hea 0)) li tk tm) (i := k) (decide_eq_false (by assumption)) (by omega)⟩) (by omega) _ _ (hP.sub [0, 1, 2, 3, 4, 5, 6, 7, 8, 9, 10, 11, 12] rfl) (hD.sub [0, 1, 2, 3, 4, 5, 6, 7, 8, 9, 10, 11, 12] rfl rfl) hS _ (lv_sub hl [0, 1, 2] rfl)
                · refine lv_iconst (v := (nI 1)) hx hb dX7_isTalk_101 (by decide) ?_
                  refine lv_goto (tgt := 106) hx hb dX7_isTalk_102 (by decide) ?_
                  refine lv_istore_n (lv' := [(1, .int (nI 1)), (2, .int (nI k)), (0, .ref rr)]) hx hb dX7_isTalk_106 rfl hl (by decide) rfl (fun ls hl => ?_)
                  refine lv_iinc (v := (nI (k + 1))) (lv' := [(2, .int (nI (k + 1))), (1, .int (nI 1)), (0, .ref rr)]) hx hb dX7_isTalk_107 hl (k := 1) rfl (nI_inc _ 1) (by decide) rfl (fun ls hl => ?_)
                  refine lv_goto (tgt := 58) hx hb dX7_isTalk_110 (by decide) ?_
                  exact ih58 (k + 1) 1 (by omega) (by omega) (Or.inl ⟨rfl, allB_s hc.2 (decide_eq_true (by assumption))⟩) (by omega) _ _ (hP.sub [0, 1, 2, 3, 4, 5, 6, 7, 8, 9, 10, 11, 12] rfl) (hD.sub [0, 1, 2, 3, 4, 5, 6, 7, 8, 9, 10, 11, 12] rfl rfl) hS _ (lv_sub hl [0, 1, 2] rfl)
              · rw [hc.1] at hl
                refine lv_iload_n hx hb dX7_isTalk_66 rfl (lv_at hl 1 rfl) ?_
                refine x_if_eq (tgt := 105) hx hb dX7_isTalk_67 (by decide) (by omega) (fun h16 => ?_) (fun h16 => False.elim (by omega))
                refine lv_iconst (v := (nI 0)) hx hb dX7_isTalk_105 (by decide) ?_
                refine lv_istore_n (lv' := [(1, .int (nI 0)), (2, .int (nI k)), (0, .ref rr)]) hx hb dX7_isTalk_106 rfl hl (by decide) rfl (fun ls hl => ?_)
                refine lv_iinc (v := (nI (k + 1))) (lv' := [(2, .int (nI (k + 1))), (1, .int (nI 0)), (0, .ref rr)]) hx hb dX7_isTalk_107 hl (k := 1) rfl (nI_inc _ 1) (by decide) rfl (fun ls hl => ?_)
                refine lv_goto (tgt := 58) hx hb dX7_isTalk_110 (by decide) ?_
                exact ih58 (k + 1) 0 (by omega) (by omega) (Or.inr ⟨rfl, allB_ff hc.2⟩) (by omega) _ _ (hP.sub [0, 1, 2, 3, 4, 5, 6, 7, 8, 9, 10, 11, 12] rfl) (hD.sub [0, 1, 2, 3, 4, 5, 6, 7, 8, 9, 10, 11, 12] rfl rfl) hS _ (lv_sub hl [0, 1, 2] rfl)
        exact loop58 _ 0 1 (Nat.lt_succ_self _) (by omega) (Or.inl ⟨rfl, rfl⟩) (by omega) _ _ (hP.sub [0, 1, 2, 3, 4, 5, 6, 7, 8, 9, 10, 11, 12] rfl) (hD.sub [0, 1, 2, 3, 4, 5, 6, 7, 8, 9, 10, 11, 12] rfl rfl) hS _ (lv_sub hl [0, 1, 2] rfl)
      · refine lv_aload_n hx hb dX7_isTalk_14 rfl (lv_at hl 1 rfl) ?_
        refine va_get (D := D) (ci := 7) (v := .ref (ad 22)) (C := RX7) (T := TX7) (N := 28) hx hb hts inX7 hown hK hP 0 rfl rfl 27 (by decide) fl73 (fun _ h9 => h9) rfl dX7_isTalk_15 ?_
        refine lv_iload_n hx hb dX7_isTalk_18 rfl (lv_at hl 0 rfl) ?_
        have hlk := hli k (by omega)
        refine x_iald (A := A) hx hb hK hP 11 0 rfl rfl dX7_isTalk_19 (by omega) (by omega) ?_
        refine x_if_le (tgt := 48) hx hb dX7_isTalk_20 (by decide) (by omega) (fun h17 => ?_) (fun h17 => ?_)
        · refine lv_iinc (v := (nI (k + 1))) (lv' := [(1, .int (nI (k + 1))), (0, .ref rr)]) hx hb dX7_isTalk_48 hl (k := 0) rfl (nI_inc _ 1) (by decide) rfl (fun ls hl => ?_)
          refine lv_goto (tgt := 6) hx hb dX7_isTalk_51 (by decide) ?_
          have hP : va_P D vwCl [(rr, eMod ad len kp uo tm em pc0), (ad 2, eArr cI 2 fm), (ad 3, eArr cI 8 pq), (ad 4, eArr cI 8 dq), (ad 5, eArr cI 8 kq), (ad 6, eArr cI 2 ai), (ad 13, eArr cI 4 sna), (ad 11, eArr cI 4 spa), (ad 12, eArr cI 4 hea), (ad 20, eArr cI 150 ((tkM (waysM cl (ai 0) (sna 0) (spa 0) (hea 0) (fm 0)) li (k + 1)).1)), (ad 21, eArr cI 150 ((tkM (waysM cl (ai 0) (sna 0) (spa 0) (hea 0) (fm 0)) li (k + 1)).2)), (ad 22, eArr cI 6 li), (ad 15, eArr cI 6 tk)] H := by rw [tkM_f (by omega)]; exact hP
          have hD : va_D A [(rr, eMod ad len kp uo tm em pc0), (ad 2, eArr cI 2 fm), (ad 3, eArr cI 8 pq), (ad 4, eArr cI 8 dq), (ad 5, eArr cI 8 kq), (ad 6, eArr cI 2 ai), (ad 13, eArr cI 4 sna), (ad 11, eArr cI 4 spa), (ad 12, eArr cI 4 hea), (ad 20, eArr cI 150 ((tkM (waysM cl (ai 0) (sna 0) (spa 0) (hea 0) (fm 0)) li (k + 1)).1)), (ad 21, eArr cI 150 ((tkM (waysM cl (ai 0) (sna 0) (spa 0) (hea 0) (fm 0)) li (k + 1)).2)), (ad 22, eArr cI 6 li), (ad 15, eArr cI 6 tk)] := by rw [tkM_f (by omega)]; exact hD
          exact ih6 (k + 1) (by omega) (by omega) _ _ (hP.sub [0, 1, 2, 3, 4, 5, 6, 7, 8, 9, 10, 11, 12] rfl) (hD.sub [0, 1, 2, 3, 4, 5, 6, 7, 8, 9, 10, 11, 12] rfl rfl) hS _ (lv_sub hl [0, 1] rfl)
        · refine lv_aload_n hx hb dX7_isTalk_23 rfl (lv_at hl 1 rfl) ?_
          refine lv_aload_n hx hb dX7_isTalk_24 rfl (lv_at hl 1 rfl) ?_
          refine va_get (D := D) (ci := 7) (v := .ref (ad 11)) (C := RX7) (T := TX7) (N := 28) hx hb hts inX7 hown hK hP 0 rfl rfl 11 (by decide) fl40 (fun _ h9 => h9) rfl dX7_isTalk_25 ?_
          refine lv_iconst (v := (nI 0)) hx hb dX7_isTalk_28 (by decide) ?_
          refine x_iald (A := A) hx hb hK hP 7 0 rfl rfl dX7_isTalk_29 (by omega) (by omega) ?_
          refine lv_iload_n hx hb dX7_isTalk_30 rfl (lv_at hl 0 rfl) ?_
          refine lv_aload_n hx hb dX7_isTalk_31 rfl (lv_at hl 1 rfl) ?_
          refine va_get (D := D) (ci := 7) (v := .ref (ad 22)) (C := RX7) (T := TX7) (N := 28) hx hb hts inX7 hown hK hP 0 rfl rfl 27 (by decide) fl73 (fun _ h9 => h9) rfl dX7_isTalk_32 ?_
          refine lv_iload_n hx hb dX7_isTalk_35 rfl (lv_at hl 0 rfl) ?_
          refine x_iald (A := A) hx hb hK hP 11 0 rfl rfl dX7_isTalk_36 (by omega) (by omega) ?_
          refine lv_bipush (v := (nI 50)) hx hb dX7_isTalk_37 (by decide) ?_
          refine lv_aload_n hx hb dX7_isTalk_39 rfl (lv_at hl 1 rfl) ?_
          refine va_get (D := D) (ci := 7) (v := .ref (ad 12)) (C := RX7) (T := TX7) (N := 28) hx hb hts inX7 hown hK hP 0 rfl rfl 12 (by decide) fl43 (fun _ h9 => h9) rfl dX7_isTalk_40 ?_
          refine lv_iconst (v := (nI 0)) hx hb dX7_isTalk_43 (by decide) ?_
          refine x_iald (A := A) hx hb hK hP 8 0 rfl rfl dX7_isTalk_44 (by omega) (by omega) ?_
          refine k_Vv (q := (RX7, TX7, 28)) (ci := 7) (As := [.int (nI (spa 0)), .int (nI k), .int (nI (li k)), .int (nI 50), .int (nI (hea 0))]) (wr := [(ad 11, eArr cI 4 spa), (ad 12, eArr cI 4 hea), (ad 22, eArr cI 6 li), (ad 15, eArr cI 6 tk)]) ⟨hx, hb, hml, hown, hts⟩ (c_X7_say1 l D cI cC rr ad len kp uo tm em pc0 fm pq dq kq ai sna (tkM (waysM cl (ai 0) (sna 0) (spa 0) (hea 0) (fm 0)) li k) cl hrc hok (by omega) (spa 0) k (li k) 50 (hea 0) (by omega) (by omega) (okS_tk hli k (by omega))) (cwV 5 hts gX7_isTalk_X7_say1 rfl rfl rfl (by decide +kernel) ⟨Nat.le_of_ble_eq_true rfl, Nat.le_of_ble_eq_true rfl⟩) rfl hl.1 rfl (Nat.le_of_ble_eq_true rfl) dX7_isTalk_45 ⟨Nat.zero_le _, Nat.zero_le _⟩ hN hK hP hD hS hA rfl (q0 := 0) rfl [0, 1, 2, 3, 4, 5, 6, 9, 10] [7, 8, 11, 12] rfl rfl ⟨rfl, rfl, by decide⟩ (fun u H locs w19 hP hD hS => ?_)
          refine lv_iinc (v := (nI (k + 1))) (lv' := [(1, .int (nI (k + 1))), (0, .ref rr)]) hx hb dX7_isTalk_48 hl (k := 0) rfl (nI_inc _ 1) (by decide) rfl (fun ls hl => ?_)
          refine lv_goto (tgt := 6) hx hb dX7_isTalk_51 (by decide) ?_
          have hP : va_P D vwCl [(ad 11, eArr cI 4 spa), (ad 12, eArr cI 4 hea), (ad 22, eArr cI 6 li), (ad 15, eArr cI 6 tk), (rr, eMod ad len kp uo tm em pc0), (ad 2, eArr cI 2 fm), (ad 3, eArr cI 8 pq), (ad 4, eArr cI 8 dq), (ad 5, eArr cI 8 kq), (ad 6, eArr cI 2 ai), (ad 13, eArr cI 4 sna), (ad 20, eArr cI 150 ((tkM (waysM cl (ai 0) (sna 0) (spa 0) (hea 0) (fm 0)) li (k + 1)).1)), (ad 21, eArr cI 150 ((tkM (waysM cl (ai 0) (sna 0) (spa 0) (hea 0) (fm 0)) li (k + 1)).2))] H := by rw [tkM_t (by omega)]; exact hP
          have hD : va_D A [(ad 11, eArr cI 4 spa), (ad 12, eArr cI 4 hea), (ad 22, eArr cI 6 li), (ad 15, eArr cI 6 tk), (rr, eMod ad len kp uo tm em pc0), (ad 2, eArr cI 2 fm), (ad 3, eArr cI 8 pq), (ad 4, eArr cI 8 dq), (ad 5, eArr cI 8 kq), (ad 6, eArr cI 2 ai), (ad 13, eArr cI 4 sna), (ad 20, eArr cI 150 ((tkM (waysM cl (ai 0) (sna 0) (spa 0) (hea 0) (fm 0)) li (k + 1)).1)), (ad 21, eArr cI 150 ((tkM (waysM cl (ai 0) (sna 0) (spa 0) (hea 0) (fm 0)) li (k + 1)).2))] := by rw [tkM_t (by omega)]; exact hD
          exact ih6 (k + 1) (by omega) (by omega) _ _ (hP.sub [4, 5, 6, 7, 8, 9, 10, 0, 1, 11, 12, 2, 3] rfl) (hD.sub [4, 5, 6, 7, 8, 9, 10, 0, 1, 11, 12, 2, 3] rfl rfl) hS _ (lv_sub hl [0, 1] rfl)
  have hP : va_P D vwCl [(ad 2, eArr cI 2 fm), (ad 3, eArr cI 8 pq), (ad 4, eArr cI 8 dq), (ad 5, eArr cI 8 kq), (ad 6, eArr cI 2 ai), (ad 13, eArr cI 4 sna), (ad 11, eArr cI 4 spa), (ad 12, eArr cI 4 hea), (ad 22, eArr cI 6 li), (ad 15, eArr cI 6 tk), (rr, eMod ad len kp uo tm em pc0), (ad 20, eArr cI 150 ((tkM (waysM cl (ai 0) (sna 0) (spa 0) (hea 0) (fm 0)) li 0).1)), (ad 21, eArr cI 150 ((tkM (waysM cl (ai 0) (sna 0) (spa 0) (hea 0) (fm 0)) li 0).2))] H := by rw [show tkM (waysM cl (ai 0) (sna 0) (spa 0) (hea 0) (fm 0)) li 0 = quietM from rfl]; exact hP
  have hD : va_D A [(ad 2, eArr cI 2 fm), (ad 3, eArr cI 8 pq), (ad 4, eArr cI 8 dq), (ad 5, eArr cI 8 kq), (ad 6, eArr cI 2 ai), (ad 13, eArr cI 4 sna), (ad 11, eArr cI 4 spa), (ad 12, eArr cI 4 hea), (ad 22, eArr cI 6 li), (ad 15, eArr cI 6 tk), (rr, eMod ad len kp uo tm em pc0), (ad 20, eArr cI 150 ((tkM (waysM cl (ai 0) (sna 0) (spa 0) (hea 0) (fm 0)) li 0).1)), (ad 21, eArr cI 150 ((tkM (waysM cl (ai 0) (sna 0) (spa 0) (hea 0) (fm 0)) li 0).2))] := by rw [show tkM (waysM cl (ai 0) (sna 0) (spa 0) (hea 0) (fm 0)) li 0 = quietM from rfl]; exact hD
  exact loop6 _ 0 (Nat.lt_succ_self _) (by omega) _ _ (hP.sub [10, 0, 1, 2, 3, 4, 5, 6, 7, 11, 12, 8, 9] rfl) (hD.sub [10, 0, 1, 2, 3, 4, 5, 6, 7, 11, 12, 8, 9] rfl rfl) hS _ (lv_sub hl [0, 1] rfl)

set_option maxRecDepth 100000 in
set_option maxHeartbeats 4000000 in
theorem c_X7_lines_bad (l : Launch) (D : va_G) (cI cC : ClassId) (rr : Nat) (ad : Nat → Nat) (len : Nat) (kp : Nat) (uo : Nat) (tm : Nat) (em : Nat) (pc0 : Nat) (z : Int) (hz : -2147483648 ≤ z ∧ z < 2147483648) (hbad : z < -1) : mtI l D cI cC yX7_lines wsX7_lines ({ frames := 0, cells := 0, slots := 0, locals := 0 }) [.ref rr, .int (iI z)] [(rr, eMod ad len kp uo tm em pc0)] (fun (r : Int32) (_ : Unit) => r = (iI (-1))) (fun (_ : Unit) => [(rr, eMod ad len kp uo tm em pc0)]) := by
  refine mtI_of (cc := cX7_lines) (maxL := 6) (ret := (some .int)) (by decide) rfl rfl ?_
  intro p e s m below meth c A hx hb hml hr hts hown hlocks hN hA hK hP hD hS ls hl
  have hown : s.vm.findClass RX7 = some m.cls := hown
  have hl : lv_has ls 6 [(0, .ref rr), (1, .int (iI z))] := hl
  obtain ⟨H, hHe⟩ : ∃ H, H = s.heap := ⟨_, rfl⟩
  rw [← hHe] at hP ⊢
  have hS : va_S A s.heap H [] := by rw [hHe]; exact va_S.rf
  refine lv_iload_n hx hb dX7_lines_0 rfl (lv_at hl 1 rfl) ?_
  refine lv_iconst (v := (iI (-1))) hx hb dX7_lines_1 (by decide) ?_
  refine z_icmp_ge (tgt := 7) hx hb dX7_lines_2 (by decide) (by omega) (by omega) (fun h1 => False.elim (by omega)) (fun h1 => ?_)
  refine lv_iconst (v := (iI (-1))) hx hb dX7_lines_5 (by decide) ?_
  exact x_iret hx hb hr hlocks dX7_lines_6 rfl (post := fun (r : Int32) (_ : Unit) => r = (iI (-1))) (w1 := fun (_ : Unit) => [(rr, eMod ad len kp uo tm em pc0)]) () rfl hK hP hD hS

set_option maxRecDepth 100000 in
set_option maxHeartbeats 4000000 in
theorem c_X7_lines_no (l : Launch) (D : va_G) (cI cC : ClassId) (rr : Nat) (ad : Nat → Nat) (len : Nat) (kp : Nat) (uo : Nat) (tm : Nat) (em : Nat) (pc0 : Nat) (z : Int) (hz : -2147483648 ≤ z ∧ z < 2147483648) (hz1 : -1 ≤ z) (hn0 : tm = 0) : mtI l D cI cC yX7_lines wsX7_lines ({ frames := 0, cells := 0, slots := 0, locals := 0 }) [.ref rr, .int (iI z)] [(rr, eMod ad len kp uo tm em pc0)] (fun (r : Int32) (_ : Unit) => r = (iI (-2))) (fun (_ : Unit) => [(rr, eMod ad len kp uo tm em pc0)]) := by
  refine mtI_of (cc := cX7_lines) (maxL := 6) (ret := (some .int)) (by decide) rfl rfl ?_
  intro p e s m below meth c A hx hb hml hr hts hown hlocks hN hA hK hP hD hS ls hl
  have hown : s.vm.findClass RX7 = some m.cls := hown
  have hl : lv_has ls 6 [(0, .ref rr), (1, .int (iI z))] := hl
  obtain ⟨H, hHe⟩ : ∃ H, H = s.heap := ⟨_, rfl⟩
  rw [← hHe] at hP ⊢
  have hS : va_S A s.heap H [] := by rw [hHe]; exact va_S.rf
  have fl148 := hts (.fieldLink RX7 148 "EchoPaysRentModel" "talkMany" "I") (by decide +kernel)
  have inX7 : ∀ w ∈ wsX70, w ∈ wsX7_lines := by decide +kernel
  refine lv_iload_n hx hb dX7_lines_0 rfl (lv_at hl 1 rfl) ?_
  refine lv_iconst (v := (iI (-1))) hx hb dX7_lines_1 (by decide) ?_
  refine z_icmp_ge (tgt := 7) hx hb dX7_lines_2 (by decide) (by omega) (by omega) (fun h1 => ?_) (fun h1 => False.elim (by omega))
  refine lv_aload_n hx hb dX7_lines_7 rfl (lv_at hl 0 rfl) ?_
  refine va_get (D := D) (ci := 7) (v := .int (nI tm)) (C := RX7) (T := TX7) (N := 28) hx hb hts inX7 hown hK hP 0 rfl rfl 17 (by decide) fl148 (fun _ h9 => h9) rfl dX7_lines_8 ?_
  refine x_if_ne (tgt := 17) hx hb dX7_lines_11 (by decide) (by omega) (fun h2 => False.elim (by omega)) (fun h2 => ?_)
  refine lv_bipush (v := (iI (-2))) hx hb dX7_lines_14 (by decide) ?_
  exact x_iret hx hb hr hlocks dX7_lines_16 rfl (post := fun (r : Int32) (_ : Unit) => r = (iI (-2))) (w1 := fun (_ : Unit) => [(rr, eMod ad len kp uo tm em pc0)]) () rfl hK hP hD hS

set_option maxRecDepth 100000 in
set_option maxHeartbeats 4000000 in
theorem c_X7_lines_beyond (l : Launch) (D : va_G) (cI cC : ClassId) (rr : Nat) (ad : Nat → Nat) (len : Nat) (kp : Nat) (uo : Nat) (tm : Nat) (em : Nat) (pc0 : Nat) (fm : Nat → Nat) (pq : Nat → Nat) (dq : Nat → Nat) (kq : Nat → Nat) (ai : Nat → Nat) (sna : Nat → Nat) (spa : Nat → Nat) (hea : Nat → Nat) (lg : Nat → Nat) (vg : Nat → Nat) (cl : Nat → Nat) (hrc : relC pq dq kq cl (fm 0)) (hok : okC cl (fm 0)) (hfm : fm 0 ≤ 4 ∧ ai 0 ≤ 99 ∧ sna 0 < 2147483648) (li : Nat → Nat) (tk : Nat → Nat) (htk : ∀ j, j < tm → tk j ≤ 3) (htm6 : 1 ≤ tm ∧ tm ≤ 6) (hsp : spa 0 ≤ 40 ∧ hea 0 ≤ 40) (z : Int) (hz : -2147483648 ≤ z ∧ z < 2147483648) (hz1 : (tm : Int) ≤ z) : mtI l D cI cC yX7_lines wsX7_lines ({ frames := 4, cells := 0, slots := 0, locals := 96 }) [.ref rr, .int (iI z)] [(rr, eMod ad len kp uo tm em pc0), (ad 2, eArr cI 2 fm), (ad 3, eArr cI 8 pq), (ad 4, eArr cI 8 dq), (ad 5, eArr cI 8 kq), (ad 6, eArr cI 2 ai), (ad 13, eArr cI 4 sna), (ad 11, eArr cI 4 spa), (ad 12, eArr cI 4 hea), (ad 20, eArr cI 150 lg), (ad 21, eArr cI 150 vg), (ad 22, eArr cI 6 li), (ad 15, eArr cI 6 tk)] (fun (r : Int32) ((lg', vg', li') : (Nat → Nat) × (Nat → Nat) × (Nat → Nat)) => r = (iI (-4))) (fun ((lg', vg', li') : (Nat → Nat) × (Nat → Nat) × (Nat → Nat)) => [(rr, eMod ad len kp uo tm em pc0), (ad 2, eArr cI 2 fm), (ad 3, eArr cI 8 pq), (ad 4, eArr cI 8 dq), (ad 5, eArr cI 8 kq), (ad 6, eArr cI 2 ai), (ad 13, eArr cI 4 sna), (ad 11, eArr cI 4 spa), (ad 12, eArr cI 4 hea), (ad 20, eArr cI 150 lg'), (ad 21, eArr cI 150 vg'), (ad 22, eArr cI 6 li'), (ad 15, eArr cI 6 tk)]) := by
  refine mtI_of (cc := cX7_lines) (maxL := 6) (ret := (some .int)) (by decide) rfl rfl ?_
  intro p e s m below meth c A hx hb hml hr hts hown hlocks hN hA hK hP hD hS ls hl
  have hown : s.vm.findClass RX7 = some m.cls := hown
  have hl : lv_has ls 6 [(0, .ref rr), (1, .int (iI z))] := hl
  obtain ⟨H, hHe⟩ : ∃ H, H = s.heap := ⟨_, rfl⟩
  rw [← hHe] at hP ⊢
  have hS : va_S A s.heap H [] := by rw [hHe]; exact va_S.rf
  have fl148 := hts (.fieldLink RX7 148 "EchoPaysRentModel" "talkMany" "I") (by decide +kernel)
  have inX7 : ∀ w ∈ wsX70, w ∈ wsX7_lines := by decide +kernel
  have f1 : 2 ^ (2 * tm) ≤ 4096 := pow12 (by omega)
  refine lv_iload_n hx hb dX7_lines_0 rfl (lv_at hl 1 rfl) ?_
  refine lv_iconst (v := (iI (-1))) hx hb dX7_lines_1 (by decide) ?_
  refine z_icmp_ge (tgt := 7) hx hb dX7_lines_2 (by decide) (by omega) (by omega) (fun h2 => ?_) (fun h2 => False.elim (by omega))
  refine lv_aload_n hx hb dX7_lines_7 rfl (lv_at hl 0 rfl) ?_
  refine va_get (D := D) (ci := 7) (v := .int (nI tm)) (C := RX7) (T := TX7) (N := 28) hx hb hts inX7 hown hK hP 0 rfl rfl 17 (by decide) fl148 (fun _ h9 => h9) rfl dX7_lines_8 ?_
  refine x_if_ne (tgt := 17) hx hb dX7_lines_11 (by decide) (by omega) (fun h3 => ?_) (fun h3 => False.elim (by omega))
  refine lv_bipush (v := (iI (-4))) hx hb dX7_lines_17 (by decide) ?_
  refine lv_istore_n (lv' := [(2, .int (iI (-4))), (0, .ref rr), (1, .int (iI z))]) hx hb dX7_lines_19 rfl hl (by decide) rfl (fun ls hl => ?_)
  refine lv_bipush (v := (iI (-4))) hx hb dX7_lines_20 (by decide) ?_
  refine lv_istore_n (lv' := [(3, .int (iI (-4))), (2, .int (iI (-4))), (0, .ref rr), (1, .int (iI z))]) hx hb dX7_lines_22 rfl hl (by decide) rfl (fun ls hl => ?_)
  refine lv_iconst (v := (nI 0)) hx hb dX7_lines_23 (by decide) ?_
  refine lv_istore (lv' := [(4, .int (nI 0)), (3, .int (iI (-4))), (2, .int (iI (-4))), (0, .ref rr), (1, .int (iI z))]) hx hb dX7_lines_24 hl (by decide) rfl (fun ls hl => ?_)
  have loop26 : ∀ (nn26 : Nat) (sc : Nat) (lg' : Nat → Nat) (vg' : Nat → Nat) (li' : Nat → Nat), 2 ^ (2 * tm) - sc < nn26 → (sc ≤ 2 ^ (2 * tm)) → ∀ (H : Heap) (locs : List Loc), va_P D vwCl [(rr, eMod ad len kp uo tm em pc0), (ad 2, eArr cI 2 fm), (ad 3, eArr cI 8 pq), (ad 4, eArr cI 8 dq), (ad 5, eArr cI 8 kq), (ad 6, eArr cI 2 ai), (ad 13, eArr cI 4 sna), (ad 11, eArr cI 4 spa), (ad 12, eArr cI 4 hea), (ad 20, eArr cI 150 lg'), (ad 21, eArr cI 150 vg'), (ad 22, eArr cI 6 li'), (ad 15, eArr cI 6 tk)] H → va_D A [(rr, eMod ad len kp uo tm em pc0), (ad 2, eArr cI 2 fm), (ad 3, eArr cI 8 pq), (ad 4, eArr cI 8 dq), (ad 5, eArr cI 8 kq), (ad 6, eArr cI 2 ai), (ad 13, eArr cI 4 sna), (ad 11, eArr cI 4 spa), (ad 12, eArr cI 4 hea), (ad 20, eArr cI 150 lg'), (ad 21, eArr cI 150 vg'), (ad 22, eArr cI 6 li'), (ad 15, eArr cI 6 tk)] → va_S A s.heap H locs → ∀ ls : Array Slot, lv_has ls 6 [(4, .int (nI sc)), (2, .int (iI ((bsM (fun s => gtM (waysM cl (ai 0) (sna 0) (spa 0) (hea 0) (fm 0)) (absd (spa 0) (hea 0)) s tm tk) sc).1))), (3, .int (iI (lsv (bsM (fun s => gtM (waysM cl (ai 0) (sna 0) (spa 0) (hea 0) (fm 0)) (absd (spa 0) (hea 0)) s tm tk) sc)))), (0, .ref rr), (1, .int (iI z))] → W p l e (headSpec wsX7_lines ({ frames := 4, cells := 0, slots := 0, locals := 96 })).room s m ([.ref rr, .int (iI z)] : List Value).toArray below meth c H locs 0 0 (MQ below (va_Qi (fun (r : Int32) ((lg', vg', li') : (Nat → Nat) × (Nat → Nat) × (Nat → Nat)) => r = (iI (-4))) (ctB D cI cC (fun ((lg', vg', li') : (Nat → Nat) × (Nat → Nat) × (Nat → Nat)) => [(rr, eMod ad len kp uo tm em pc0), (ad 2, eArr cI 2 fm), (ad 3, eArr cI 8 pq), (ad 4, eArr cI 8 dq), (ad 5, eArr cI 8 kq), (ad 6, eArr cI 2 ai), (ad 13, eArr cI 4 sna), (ad 11, eArr cI 4 spa), (ad 12, eArr cI 4 hea), (ad 20, eArr cI 150 lg'), (ad 21, eArr cI 150 vg'), (ad 22, eArr cI 6 li'), (ad 15, eArr cI 6 tk)]) A) A) ([.ref rr, .int (iI z)] : List Value).toArray s 0 0 A) (F0 m 26 ls []) := by
    intro nn26
    induction nn26 with
    | zero =>
      intro sc lg' vg' li' hm4
      exact absurd hm4 (Nat.not_lt_zero _)
    | succ nn26 ih26 =>
      intro sc lg' vg' li' hm4 hi5 H locs hP hD hS ls hl
      refine lv_iload hx hb dX7_lines_26 (lv_at hl 0 rfl) ?_
      refine lv_iconst (v := (nI 1)) hx hb dX7_lines_28 (by decide) ?_
      refine lv_iconst (v := (nI 2)) hx hb dX7_lines_29 (by decide) ?_
      refine lv_aload_n hx hb dX7_lines_30 rfl (lv_at hl 3 rfl) ?_
      refine va_get (D := D) (ci := 7) (v := .int (nI tm)) (C := RX7) (T := TX7) (N := 28) hx hb hts inX7 hown hK hP 0 rfl rfl 17 (by decide) fl148 (fun _ h9 => h9) rfl dX7_lines_31 ?_
      refine x_imul hx hb dX7_lines_34 ?_
      refine x_shl1 hx hb dX7_lines_35 (by omega) ?_
      refine x_icmp_ge (tgt := 76) hx hb dX7_lines_36 (by decide) (by omega) (by omega) (fun h6 => ?_) (fun h6 => ?_)
      · obtain rfl : sc = 2 ^ (2 * tm) := by omega
        have hbd := bsM_bd (fun s => gtM (waysM cl (ai 0) (sna 0) (spa 0) (hea 0) (fm 0)) (absd (spa 0) (hea 0)) s tm tk) (2 ^ (2 * tm))
        refine lv_iload_n hx hb dX7_lines_76 rfl (lv_at hl 1 rfl) ?_
        refine z_if_lt (tgt := 88) hx hb dX7_lines_77 (by decide) (by omega) (fun h7 => ?_) (fun h7 => ?_)
        · refine lv_bipush (v := (iI (-4))) hx hb dX7_lines_88 (by decide) ?_
          exact x_iret hx hb hr hlocks dX7_lines_90 rfl (post := fun (r : Int32) ((lg', vg', li') : (Nat → Nat) × (Nat → Nat) × (Nat → Nat)) => r = (iI (-4))) (w1 := fun ((lg', vg', li') : (Nat → Nat) × (Nat → Nat) × (Nat → Nat)) => [(rr, eMod ad len kp uo tm em pc0), (ad 2, eArr cI 2 fm), (ad 3, eArr cI 8 pq), (ad 4, eArr cI 8 dq), (ad 5, eArr cI 8 kq), (ad 6, eArr cI 2 ai), (ad 13, eArr cI 4 sna), (ad 11, eArr cI 4 spa), (ad 12, eArr cI 4 hea), (ad 20, eArr cI 150 lg'), (ad 21, eArr cI 150 vg'), (ad 22, eArr cI 6 li'), (ad 15, eArr cI 6 tk)]) (lg', vg', li') rfl hK hP hD hS
        · refine lv_iload_n hx hb dX7_lines_80 rfl (lv_at hl 4 rfl) ?_
          refine lv_aload_n hx hb dX7_lines_81 rfl (lv_at hl 3 rfl) ?_
          refine va_get (D := D) (ci := 7) (v := .int (nI tm)) (C := RX7) (T := TX7) (N := 28) hx hb hts inX7 hown hK hP 0 rfl rfl 17 (by decide) fl148 (fun _ h9 => h9) rfl dX7_lines_82 ?_
          refine x_top (nI_iI _) ?_
          refine z_icmp_lt (tgt := 91) hx hb dX7_lines_85 (by decide) (by omega) (by omega) (fun h8 => False.elim (by omega)) (fun h8 => ?_)
          refine lv_bipush (v := (iI (-4))) hx hb dX7_lines_88 (by decide) ?_
          exact x_iret hx hb hr hlocks dX7_lines_90 rfl (post := fun (r : Int32) ((lg', vg', li') : (Nat → Nat) × (Nat → Nat) × (Nat → Nat)) => r = (iI (-4))) (w1 := fun ((lg', vg', li') : (Nat → Nat) × (Nat → Nat) × (Nat → Nat)) => [(rr, eMod ad len kp uo tm em pc0), (ad 2, eArr cI 2 fm), (ad 3, eArr cI 8 pq), (ad 4, eArr cI 8 dq), (ad 5, eArr cI 8 kq), (ad 6, eArr cI 2 ai), (ad 13, eArr cI 4 sna), (ad 11, eArr cI 4 spa), (ad 12, eArr cI 4 hea), (ad 20, eArr cI 150 lg'), (ad 21, eArr cI 150 vg'), (ad 22, eArr cI 6 li'), (ad 15, eArr cI 6 tk)]) (lg', vg', li') rfl hK hP hD hS
      · have hbd := bsM_bd (fun s => gtM (waysM cl (ai 0) (sna 0) (spa 0) (hea 0) (fm 0)) (absd (spa 0) (hea 0)) s tm tk) sc
        have hlv := lsv_bd (fun s => gtM (waysM cl (ai 0) (sna 0) (spa 0) (hea 0) (fm 0)) (absd (spa 0) (hea 0)) s tm tk) sc
        refine lv_aload_n hx hb dX7_lines_39 rfl (lv_at hl 3 rfl) ?_
        refine lv_iload hx hb dX7_lines_40 (lv_at hl 0 rfl) ?_
        refine k_V (q := (RX7, TX7, 28)) (ci := 7) (As := [.int (nI sc)]) (wr := [(ad 2, eArr cI 2 fm), (ad 3, eArr cI 8 pq), (ad 4, eArr cI 8 dq), (ad 5, eArr cI 8 kq), (ad 6, eArr cI 2 ai), (ad 13, eArr cI 4 sna), (ad 11, eArr cI 4 spa), (ad 12, eArr cI 4 hea), (ad 20, eArr cI 150 lg'), (ad 21, eArr cI 150 vg'), (ad 15, eArr cI 6 tk)]) ⟨hx, hb, hml, hown, hts⟩ (c_X7_takeLines l D cI cC rr ad len kp uo tm em pc0 li' sc (by omega) (by omega)) (cwV 1 hts gX7_lines_X7_takeLines rfl rfl rfl (by decide +kernel) ⟨Nat.le_of_ble_eq_true rfl, Nat.le_of_ble_eq_true rfl⟩) rfl hl.1 rfl (Nat.le_of_ble_eq_true rfl) dX7_lines_42 ⟨Nat.zero_le _, Nat.zero_le _⟩ hN hK hP hD hS hA rfl (q0 := 0) rfl [0, 11] [1, 2, 3, 4, 5, 6, 7, 8, 9, 10, 12] rfl rfl ⟨rfl, rfl, by decide⟩ (fun r9 u H locs w10 hP hD hS => ?_)
        obtain rfl : r9 = (nI (dgM sc tm)) := w10
        refine x_top (show nI (dgM sc tm) = nI (wiM sc) from congrArg nI (dg_wi (by omega) (by omega))) ?_
        have hw6 := wiM_6 sc (by omega)
        refine lv_istore (lv' := [(5, .int (nI (wiM sc))), (4, .int (nI sc)), (2, .int (iI ((bsM (fun s => gtM (waysM cl (ai 0) (sna 0) (spa 0) (hea 0) (fm 0)) (absd (spa 0) (hea 0)) s tm tk) sc).1))), (3, .int (iI (lsv (bsM (fun s => gtM (waysM cl (ai 0) (sna 0) (spa 0) (hea 0) (fm 0)) (absd (spa 0) (hea 0)) s tm tk) sc)))), (0, .ref rr), (1, .int (iI z))]) hx hb dX7_lines_45 hl (by decide) rfl (fun ls hl => ?_)
        refine lv_iload_n hx hb dX7_lines_47 rfl (lv_at hl 2 rfl) ?_
        refine z_if_lt (tgt := 57) hx hb dX7_lines_48 (by decide) (by omega) (fun h11 => ?_) (fun h11 => ?_)
        · refine lv_aload_n hx hb dX7_lines_57 rfl (lv_at hl 4 rfl) ?_
          refine k_V (q := (RX7, TX7, 28)) (ci := 7) (As := []) (wr := []) ⟨hx, hb, hml, hown, hts⟩ (c_X7_isTalk l D cI cC rr ad len kp uo tm em pc0 fm pq dq kq ai sna spa hea lg' vg' cl hrc hok (by omega) (tlM li' sc tm tm) tk (fun j hj => by rw [tlM_at hj]; exact lineM_3 _ _ _) (by omega) (by omega) (by omega)) (cwV 0 hts gX7_lines_X7_isTalk rfl rfl rfl (by decide +kernel) ⟨Nat.le_of_ble_eq_true rfl, Nat.le_of_ble_eq_true rfl⟩) rfl hl.1 rfl (Nat.le_of_ble_eq_true rfl) dX7_lines_58 ⟨Nat.zero_le _, Nat.zero_le _⟩ hN hK hP hD hS hA rfl (q0 := 11) rfl [11, 0, 1, 2, 3, 4, 5, 6, 7, 8, 9, 12, 10] [] rfl rfl ⟨rfl, rfl, by decide⟩ (fun r12 u H locs w13 hP hD hS => ?_)
          obtain ⟨rfl, h14⟩ | ⟨rfl, h15⟩ : (r12 = (nI 1) ∧ itM (waysM cl (ai 0) (sna 0) (spa 0) (hea 0) (fm 0)) (absd (spa 0) (hea 0)) (tlM li' sc tm tm) tk tm = true) ∨ (r12 = (nI 0) ∧ itM (waysM cl (ai 0) (sna 0) (spa 0) (hea 0) (fm 0)) (absd (spa 0) (hea 0)) (tlM li' sc tm tm) tk tm = false) := w13
          · have hgt : gtM (waysM cl (ai 0) (sna 0) (spa 0) (hea 0) (fm 0)) (absd (spa 0) (hea 0)) sc tm tk = true := by rw [← it_gt (absd_le (by omega) (by omega)) (by omega), ← itM_cg (ln := tlM li' sc tm tm) (fun k hk => tlM_at hk)]; exact h14
            refine x_if_eq (tgt := 70) hx hb dX7_lines_61 (by decide) (by omega) (fun h16 => False.elim (by omega)) (fun h16 => ?_)
            refine lv_iload hx hb dX7_lines_64 (lv_at hl 1 rfl) ?_
            refine lv_istore_n (lv' := [(2, .int (nI sc)), (5, .int (nI (wiM sc))), (4, .int (nI sc)), (3, .int (iI (lsv (bsM (fun s => gtM (waysM cl (ai 0) (sna 0) (spa 0) (hea 0) (fm 0)) (absd (spa 0) (hea 0)) s tm tk) sc)))), (0, .ref rr), (1, .int (iI z))]) hx hb dX7_lines_66 rfl hl (by decide) rfl (fun ls hl => ?_)
            refine lv_iload hx hb dX7_lines_67 (lv_at hl 1 rfl) ?_
            refine lv_istore_n (lv' := [(3, .int (nI (wiM sc))), (2, .int (nI sc)), (5, .int (nI (wiM sc))), (4, .int (nI sc)), (0, .ref rr), (1, .int (iI z))]) hx hb dX7_lines_69 rfl hl (by decide) rfl (fun ls hl => ?_)
            refine lv_iinc (v := (nI (sc + 1))) (lv' := [(4, .int (nI (sc + 1))), (3, .int (nI (wiM sc))), (2, .int (nI sc)), (5, .int (nI (wiM sc))), (0, .ref rr), (1, .int (iI z))]) hx hb dX7_lines_70 hl (k := 3) rfl (nI_inc _ 1) (by decide) rfl (fun ls hl => ?_)
            refine lv_goto (tgt := 26) hx hb dX7_lines_73 (by decide) ?_
            have hl : lv_has ls 6 [(4, .int (nI (sc + 1))), (2, .int (iI ((bsM (fun s => gtM (waysM cl (ai 0) (sna 0) (spa 0) (hea 0) (fm 0)) (absd (spa 0) (hea 0)) s tm tk) (sc + 1)).1))), (3, .int (iI (lsv (bsM (fun s => gtM (waysM cl (ai 0) (sna 0) (spa 0) (hea 0) (fm 0)) (absd (spa 0) (hea 0)) s tm tk) (sc + 1))))), (0, .ref rr), (1, .int (iI z))] := by have h := hl; have e := rbs_t (ok := (fun s => gtM (waysM cl (ai 0) (sna 0) (spa 0) (hea 0) (fm 0)) (absd (spa 0) (hea 0)) s tm tk)) (s := sc) (by omega) hgt (by omega); rw [e, lsv_nat]; have h := lv_sub h [0, 2, 1, 4, 5] rfl; simp only [nI_iI] at h ⊢; exact h
            exact ih26 (sc + 1) ((tkM (waysM cl (ai 0) (sna 0) (spa 0) (hea 0) (fm 0)) (tlM li' sc tm tm) tm).1) ((tkM (waysM cl (ai 0) (sna 0) (spa 0) (hea 0) (fm 0)) (tlM li' sc tm tm) tm).2) (tlM li' sc tm tm) (by omega) (by omega) _ _ (hP.sub [0, 1, 2, 3, 4, 5, 6, 7, 8, 9, 10, 11, 12] rfl) (hD.sub [0, 1, 2, 3, 4, 5, 6, 7, 8, 9, 10, 11, 12] rfl rfl) hS _ (lv_sub hl [0, 1, 2, 3, 4] rfl)
          · have hgt : gtM (waysM cl (ai 0) (sna 0) (spa 0) (hea 0) (fm 0)) (absd (spa 0) (hea 0)) sc tm tk = false := by rw [← it_gt (absd_le (by omega) (by omega)) (by omega), ← itM_cg (ln := tlM li' sc tm tm) (fun k hk => tlM_at hk)]; exact h15
            refine x_if_eq (tgt := 70) hx hb dX7_lines_61 (by decide) (by omega) (fun h17 => ?_) (fun h17 => False.elim (by omega))
            refine lv_iinc (v := (nI (sc + 1))) (lv' := [(4, .int (nI (sc + 1))), (5, .int (nI (wiM sc))), (2, .int (iI ((bsM (fun s => gtM (waysM cl (ai 0) (sna 0) (spa 0) (hea 0) (fm 0)) (absd (spa 0) (hea 0)) s tm tk) sc).1))), (3, .int (iI (lsv (bsM (fun s => gtM (waysM cl (ai 0) (sna 0) (spa 0) (hea 0) (fm 0)) (absd (spa 0) (hea 0)) s tm tk) sc)))), (0, .ref rr), (1, .int (iI z))]) hx hb dX7_lines_70 hl (k := 1) rfl (nI_inc _ 1) (by decide) rfl (fun ls hl => ?_)
            refine lv_goto (tgt := 26) hx hb dX7_lines_73 (by decide) ?_
            have hl : lv_has ls 6 [(4, .int (nI (sc + 1))), (2, .int (iI ((bsM (fun s => gtM (waysM cl (ai 0) (sna 0) (spa 0) (hea 0) (fm 0)) (absd (spa 0) (hea 0)) s tm tk) (sc + 1)).1))), (3, .int (iI (lsv (bsM (fun s => gtM (waysM cl (ai 0) (sna 0) (spa 0) (hea 0) (fm 0)) (absd (spa 0) (hea 0)) s tm tk) (sc + 1))))), (0, .ref rr), (1, .int (iI z))] := by have h := hl; have e := rbs_f (ok := (fun s => gtM (waysM cl (ai 0) (sna 0) (spa 0) (hea 0) (fm 0)) (absd (spa 0) (hea 0)) s tm tk)) (s := sc) (Or.inr hgt); rw [e]; have h := lv_sub h [0, 2, 3, 4, 5] rfl; simp only [nI_iI] at h ⊢; exact h
            exact ih26 (sc + 1) ((tkM (waysM cl (ai 0) (sna 0) (spa 0) (hea 0) (fm 0)) (tlM li' sc tm tm) tm).1) ((tkM (waysM cl (ai 0) (sna 0) (spa 0) (hea 0) (fm 0)) (tlM li' sc tm tm) tm).2) (tlM li' sc tm tm) (by omega) (by omega) _ _ (hP.sub [0, 1, 2, 3, 4, 5, 6, 7, 8, 9, 10, 11, 12] rfl) (hD.sub [0, 1, 2, 3, 4, 5, 6, 7, 8, 9, 10, 11, 12] rfl rfl) hS _ (lv_sub hl [0, 1, 2, 3, 4] rfl)
        · refine lv_iload hx hb dX7_lines_51 (lv_at hl 0 rfl) ?_
          refine lv_iload_n hx hb dX7_lines_53 rfl (lv_at hl 3 rfl) ?_
          refine x_top2 (nI_iI _) ?_
          refine z_icmp_ge (tgt := 70) hx hb dX7_lines_54 (by decide) (by omega) (by omega) (fun h18 => ?_) (fun h18 => ?_)
          · refine lv_iinc (v := (nI (sc + 1))) (lv' := [(4, .int (nI (sc + 1))), (5, .int (nI (wiM sc))), (2, .int (iI ((bsM (fun s => gtM (waysM cl (ai 0) (sna 0) (spa 0) (hea 0) (fm 0)) (absd (spa 0) (hea 0)) s tm tk) sc).1))), (3, .int (iI (lsv (bsM (fun s => gtM (waysM cl (ai 0) (sna 0) (spa 0) (hea 0) (fm 0)) (absd (spa 0) (hea 0)) s tm tk) sc)))), (0, .ref rr), (1, .int (iI z))]) hx hb dX7_lines_70 hl (k := 1) rfl (nI_inc _ 1) (by decide) rfl (fun ls hl => ?_)
            refine lv_goto (tgt := 26) hx hb dX7_lines_73 (by decide) ?_
            have hl : lv_has ls 6 [(4, .int (nI (sc + 1))), (2, .int (iI ((bsM (fun s => gtM (waysM cl (ai 0) (sna 0) (spa 0) (hea 0) (fm 0)) (absd (spa 0) (hea 0)) s tm tk) (sc + 1)).1))), (3, .int (iI (lsv (bsM (fun s => gtM (waysM cl (ai 0) (sna 0) (spa 0) (hea 0) (fm 0)) (absd (spa 0) (hea 0)) s tm tk) (sc + 1))))), (0, .ref rr), (1, .int (iI z))] := by have h := hl; have e := rbs_f (ok := (fun s => gtM (waysM cl (ai 0) (sna 0) (spa 0) (hea 0) (fm 0)) (absd (spa 0) (hea 0)) s tm tk)) (s := sc) (Or.inl (by omega)); rw [e]; have h := lv_sub h [0, 2, 3, 4, 5] rfl; simp only [nI_iI] at h ⊢; exact h
            exact ih26 (sc + 1) lg' vg' (tlM li' sc tm tm) (by omega) (by omega) _ _ (hP.sub [11, 0, 1, 2, 3, 4, 5, 6, 7, 8, 9, 12, 10] rfl) (hD.sub [11, 0, 1, 2, 3, 4, 5, 6, 7, 8, 9, 12, 10] rfl rfl) hS _ (lv_sub hl [0, 1, 2, 3, 4] rfl)
          · refine lv_aload_n hx hb dX7_lines_57 rfl (lv_at hl 4 rfl) ?_
            refine k_V (q := (RX7, TX7, 28)) (ci := 7) (As := []) (wr := []) ⟨hx, hb, hml, hown, hts⟩ (c_X7_isTalk l D cI cC rr ad len kp uo tm em pc0 fm pq dq kq ai sna spa hea lg' vg' cl hrc hok (by omega) (tlM li' sc tm tm) tk (fun j hj => by rw [tlM_at hj]; exact lineM_3 _ _ _) (by omega) (by omega) (by omega)) (cwV 0 hts gX7_lines_X7_isTalk rfl rfl rfl (by decide +kernel) ⟨Nat.le_of_ble_eq_true rfl, Nat.le_of_ble_eq_true rfl⟩) rfl hl.1 rfl (Nat.le_of_ble_eq_true rfl) dX7_lines_58 ⟨Nat.zero_le _, Nat.zero_le _⟩ hN hK hP hD hS hA rfl (q0 := 11) rfl [11, 0, 1, 2, 3, 4, 5, 6, 7, 8, 9, 12, 10] [] rfl rfl ⟨rfl, rfl, by decide⟩ (fun r19 u H locs w20 hP hD hS => ?_)
            obtain ⟨rfl, h21⟩ | ⟨rfl, h22⟩ : (r19 = (nI 1) ∧ itM (waysM cl (ai 0) (sna 0) (spa 0) (hea 0) (fm 0)) (absd (spa 0) (hea 0)) (tlM li' sc tm tm) tk tm = true) ∨ (r19 = (nI 0) ∧ itM (waysM cl (ai 0) (sna 0) (spa 0) (hea 0) (fm 0)) (absd (spa 0) (hea 0)) (tlM li' sc tm tm) tk tm = false) := w20
            · have hgt : gtM (waysM cl (ai 0) (sna 0) (spa 0) (hea 0) (fm 0)) (absd (spa 0) (hea 0)) sc tm tk = true := by rw [← it_gt (absd_le (by omega) (by omega)) (by omega), ← itM_cg (ln := tlM li' sc tm tm) (fun k hk => tlM_at hk)]; exact h21
              refine x_if_eq (tgt := 70) hx hb dX7_lines_61 (by decide) (by omega) (fun h23 => False.elim (by omega)) (fun h23 => ?_)
              refine lv_iload hx hb dX7_lines_64 (lv_at hl 1 rfl) ?_
              refine lv_istore_n (lv' := [(2, .int (nI sc)), (5, .int (nI (wiM sc))), (4, .int (nI sc)), (3, .int (iI (lsv (bsM (fun s => gtM (waysM cl (ai 0) (sna 0) (spa 0) (hea 0) (fm 0)) (absd (spa 0) (hea 0)) s tm tk) sc)))), (0, .ref rr), (1, .int (iI z))]) hx hb dX7_lines_66 rfl hl (by decide) rfl (fun ls hl => ?_)
              refine lv_iload hx hb dX7_lines_67 (lv_at hl 1 rfl) ?_
              refine lv_istore_n (lv' := [(3, .int (nI (wiM sc))), (2, .int (nI sc)), (5, .int (nI (wiM sc))), (4, .int (nI sc)), (0, .ref rr), (1, .int (iI z))]) hx hb dX7_lines_69 rfl hl (by decide) rfl (fun ls hl => ?_)
              refine lv_iinc (v := (nI (sc + 1))) (lv' := [(4, .int (nI (sc + 1))), (3, .int (nI (wiM sc))), (2, .int (nI sc)), (5, .int (nI (wiM sc))), (0, .ref rr), (1, .int (iI z))]) hx hb dX7_lines_70 hl (k := 3) rfl (nI_inc _ 1) (by decide) rfl (fun ls hl => ?_)
              refine lv_goto (tgt := 26) hx hb dX7_lines_73 (by decide) ?_
              have hl : lv_has ls 6 [(4, .int (nI (sc + 1))), (2, .int (iI ((bsM (fun s => gtM (waysM cl (ai 0) (sna 0) (spa 0) (hea 0) (fm 0)) (absd (spa 0) (hea 0)) s tm tk) (sc + 1)).1))), (3, .int (iI (lsv (bsM (fun s => gtM (waysM cl (ai 0) (sna 0) (spa 0) (hea 0) (fm 0)) (absd (spa 0) (hea 0)) s tm tk) (sc + 1))))), (0, .ref rr), (1, .int (iI z))] := by have h := hl; have e := rbs_t (ok := (fun s => gtM (waysM cl (ai 0) (sna 0) (spa 0) (hea 0) (fm 0)) (absd (spa 0) (hea 0)) s tm tk)) (s := sc) (by omega) hgt (by omega); rw [e, lsv_nat]; have h := lv_sub h [0, 2, 1, 4, 5] rfl; simp only [nI_iI] at h ⊢; exact h
              exact ih26 (sc + 1) ((tkM (waysM cl (ai 0) (sna 0) (spa 0) (hea 0) (fm 0)) (tlM li' sc tm tm) tm).1) ((tkM (waysM cl (ai 0) (sna 0) (spa 0) (hea 0) (fm 0)) (tlM li' sc tm tm) tm).2) (tlM li' sc tm tm) (by omega) (by omega) _ _ (hP.sub [0, 1, 2, 3, 4, 5, 6, 7, 8, 9, 10, 11, 12] rfl) (hD.sub [0, 1, 2, 3, 4, 5, 6, 7, 8, 9, 10, 11, 12] rfl rfl) hS _ (lv_sub hl [0, 1, 2, 3, 4] rfl)
            · have hgt : gtM (waysM cl (ai 0) (sna 0) (spa 0) (hea 0) (fm 0)) (absd (spa 0) (hea 0)) sc tm tk = false := by rw [← it_gt (absd_le (by omega) (by omega)) (by omega), ← itM_cg (ln := tlM li' sc tm tm) (fun k hk => tlM_at hk)]; exact h22
              refine x_if_eq (tgt := 70) hx hb dX7_lines_61 (by decide) (by omega) (fun h24 => ?_) (fun h24 => False.elim (by omega))
              refine lv_iinc (v := (nI (sc + 1))) (lv' := [(4, .int (nI (sc + 1))), (5, .int (nI (wiM sc))), (2, .int (iI ((bsM (fun s => gtM (waysM cl (ai 0) (sna 0) (spa 0) (hea 0) (fm 0)) (absd (spa 0) (hea 0)) s tm tk) sc).1))), (3, .int (iI (lsv (bsM (fun s => gtM (waysM cl (ai 0) (sna 0) (spa 0) (hea 0) (fm 0)) (absd (spa 0) (hea 0)) s tm tk) sc)))), (0, .ref rr), (1, .int (iI z))]) hx hb dX7_lines_70 hl (k := 1) rfl (nI_inc _ 1) (by decide) rfl (fun ls hl => ?_)
              refine lv_goto (tgt := 26) hx hb dX7_lines_73 (by decide) ?_
              have hl : lv_has ls 6 [(4, .int (nI (sc + 1))), (2, .int (iI ((bsM (fun s => gtM (waysM cl (ai 0) (sna 0) (spa 0) (hea 0) (fm 0)) (absd (spa 0) (hea 0)) s tm tk) (sc + 1)).1))), (3, .int (iI (lsv (bsM (fun s => gtM (waysM cl (ai 0) (sna 0) (spa 0) (hea 0) (fm 0)) (absd (spa 0) (hea 0)) s tm tk) (sc + 1))))), (0, .ref rr), (1, .int (iI z))] := by have h := hl; have e := rbs_f (ok := (fun s => gtM (waysM cl (ai 0) (sna 0) (spa 0) (hea 0) (fm 0)) (absd (spa 0) (hea 0)) s tm tk)) (s := sc) (Or.inr hgt); rw [e]; have h := lv_sub h [0, 2, 3, 4, 5] rfl; simp only [nI_iI] at h ⊢; exact h
              exact ih26 (sc + 1) ((tkM (waysM cl (ai 0) (sna 0) (spa 0) (hea 0) (fm 0)) (tlM li' sc tm tm) tm).1) ((tkM (waysM cl (ai 0) (sna 0) (spa 0) (hea 0) (fm 0)) (tlM li' sc tm tm) tm).2) (tlM li' sc tm tm) (by omega) (by omega) _ _ (hP.sub [0, 1, 2, 3, 4, 5, 6, 7, 8, 9, 10, 11, 12] rfl) (hD.sub [0, 1, 2, 3, 4, 5, 6, 7, 8, 9, 10, 11, 12] rfl rfl) hS _ (lv_sub hl [0, 1, 2, 3, 4] rfl)
  exact loop26 _ 0 lg vg li (Nat.lt_succ_self _) (Nat.zero_le _) _ _ (hP.sub [0, 1, 2, 3, 4, 5, 6, 7, 8, 9, 10, 11, 12] rfl) (hD.sub [0, 1, 2, 3, 4, 5, 6, 7, 8, 9, 10, 11, 12] rfl rfl) hS _ (lv_sub hl [0, 2, 1, 3, 4] rfl)

set_option maxRecDepth 100000 in
set_option maxHeartbeats 4000000 in
theorem c_X7_lines_none (l : Launch) (D : va_G) (cI cC : ClassId) (rr : Nat) (ad : Nat → Nat) (len : Nat) (kp : Nat) (uo : Nat) (tm : Nat) (em : Nat) (pc0 : Nat) (fm : Nat → Nat) (pq : Nat → Nat) (dq : Nat → Nat) (kq : Nat → Nat) (ai : Nat → Nat) (sna : Nat → Nat) (spa : Nat → Nat) (hea : Nat → Nat) (lg : Nat → Nat) (vg : Nat → Nat) (cl : Nat → Nat) (hrc : relC pq dq kq cl (fm 0)) (hok : okC cl (fm 0)) (hfm : fm 0 ≤ 4 ∧ ai 0 ≤ 99 ∧ sna 0 < 2147483648) (li : Nat → Nat) (tk : Nat → Nat) (htk : ∀ j, j < tm → tk j ≤ 3) (htm6 : 1 ≤ tm ∧ tm ≤ 6) (hsp : spa 0 ≤ 40 ∧ hea 0 ≤ 40) (z : Int) (hz : -2147483648 ≤ z ∧ z < 2147483648) (hz1 : -1 ≤ z ∧ z < (tm : Int)) (hbs : (bsM (fun s => gtM (waysM cl (ai 0) (sna 0) (spa 0) (hea 0) (fm 0)) (absd (spa 0) (hea 0)) s tm tk) (2 ^ (2 * tm))).1 = -4) : mtI l D cI cC yX7_lines wsX7_lines ({ frames := 4, cells := 0, slots := 0, locals := 96 }) [.ref rr, .int (iI z)] [(rr, eMod ad len kp uo tm em pc0), (ad 2, eArr cI 2 fm), (ad 3, eArr cI 8 pq), (ad 4, eArr cI 8 dq), (ad 5, eArr cI 8 kq), (ad 6, eArr cI 2 ai), (ad 13, eArr cI 4 sna), (ad 11, eArr cI 4 spa), (ad 12, eArr cI 4 hea), (ad 20, eArr cI 150 lg), (ad 21, eArr cI 150 vg), (ad 22, eArr cI 6 li), (ad 15, eArr cI 6 tk)] (fun (r : Int32) ((lg', vg', li') : (Nat → Nat) × (Nat → Nat) × (Nat → Nat)) => r = (iI (-4))) (fun ((lg', vg', li') : (Nat → Nat) × (Nat → Nat) × (Nat → Nat)) => [(rr, eMod ad len kp uo tm em pc0), (ad 2, eArr cI 2 fm), (ad 3, eArr cI 8 pq), (ad 4, eArr cI 8 dq), (ad 5, eArr cI 8 kq), (ad 6, eArr cI 2 ai), (ad 13, eArr cI 4 sna), (ad 11, eArr cI 4 spa), (ad 12, eArr cI 4 hea), (ad 20, eArr cI 150 lg'), (ad 21, eArr cI 150 vg'), (ad 22, eArr cI 6 li'), (ad 15, eArr cI 6 tk)]) := by
  refine mtI_of (cc := cX7_lines) (maxL := 6) (ret := (some .int)) (by decide) rfl rfl ?_
  intro p e s m below meth c A hx hb hml hr hts hown hlocks hN hA hK hP hD hS ls hl
  have hown : s.vm.findClass RX7 = some m.cls := hown
  have hl : lv_has ls 6 [(0, .ref rr), (1, .int (iI z))] := hl
  obtain ⟨H, hHe⟩ : ∃ H, H = s.heap := ⟨_, rfl⟩
  rw [← hHe] at hP ⊢
  have hS : va_S A s.heap H [] := by rw [hHe]; exact va_S.rf
  have fl148 := hts (.fieldLink RX7 148 "EchoPaysRentModel" "talkMany" "I") (by decide +kernel)
  have inX7 : ∀ w ∈ wsX70, w ∈ wsX7_lines := by decide +kernel
  have f1 : 2 ^ (2 * tm) ≤ 4096 := pow12 (by omega)
  refine lv_iload_n hx hb dX7_lines_0 rfl (lv_at hl 1 rfl) ?_
  refine lv_iconst (v := (iI (-1))) hx hb dX7_lines_1 (by decide) ?_
  refine z_icmp_ge (tgt := 7) hx hb dX7_lines_2 (by decide) (by omega) (by omega) (fun h2 => ?_) (fun h2 => False.elim (by omega))
  refine lv_aload_n hx hb dX7_lines_7 rfl (lv_at hl 0 rfl) ?_
  refine va_get (D := D) (ci := 7) (v := .int (nI tm)) (C := RX7) (T := TX7) (N := 28) hx hb hts inX7 hown hK hP 0 rfl rfl 17 (by decide) fl148 (fun _ h9 => h9) rfl dX7_lines_8 ?_
  refine x_if_ne (tgt := 17) hx hb dX7_lines_11 (by decide) (by omega) (fun h3 => ?_) (fun h3 => False.elim (by omega))
  refine lv_bipush (v := (iI (-4))) hx hb dX7_lines_17 (by decide) ?_
  refine lv_istore_n (lv' := [(2, .int (iI (-4))), (0, .ref rr), (1, .int (iI z))]) hx hb dX7_lines_19 rfl hl (by decide) rfl (fun ls hl => ?_)
  refine lv_bipush (v := (iI (-4))) hx hb dX7_lines_20 (by decide) ?_
  refine lv_istore_n (lv' := [(3, .int (iI (-4))), (2, .int (iI (-4))), (0, .ref rr), (1, .int (iI z))]) hx hb dX7_lines_22 rfl hl (by decide) rfl (fun ls hl => ?_)
  refine lv_iconst (v := (nI 0)) hx hb dX7_lines_23 (by decide) ?_
  refine lv_istore (lv' := [(4, .int (nI 0)), (3, .int (iI (-4))), (2, .int (iI (-4))), (0, .ref rr), (1, .int (iI z))]) hx hb dX7_lines_24 hl (by decide) rfl (fun ls hl => ?_)
  have loop26 : ∀ (nn26 : Nat) (sc : Nat) (lg' : Nat → Nat) (vg' : Nat → Nat) (li' : Nat → Nat), 2 ^ (2 * tm) - sc < nn26 → (sc ≤ 2 ^ (2 * tm)) → ∀ (H : Heap) (locs : List Loc), va_P D vwCl [(rr, eMod ad len kp uo tm em pc0), (ad 2, eArr cI 2 fm), (ad 3, eArr cI 8 pq), (ad 4, eArr cI 8 dq), (ad 5, eArr cI 8 kq), (ad 6, eArr cI 2 ai), (ad 13, eArr cI 4 sna), (ad 11, eArr cI 4 spa), (ad 12, eArr cI 4 hea), (ad 20, eArr cI 150 lg'), (ad 21, eArr cI 150 vg'), (ad 22, eArr cI 6 li'), (ad 15, eArr cI 6 tk)] H → va_D A [(rr, eMod ad len kp uo tm em pc0), (ad 2, eArr cI 2 fm), (ad 3, eArr cI 8 pq), (ad 4, eArr cI 8 dq), (ad 5, eArr cI 8 kq), (ad 6, eArr cI 2 ai), (ad 13, eArr cI 4 sna), (ad 11, eArr cI 4 spa), (ad 12, eArr cI 4 hea), (ad 20, eArr cI 150 lg'), (ad 21, eArr cI 150 vg'), (ad 22, eArr cI 6 li'), (ad 15, eArr cI 6 tk)] → va_S A s.heap H locs → ∀ ls : Array Slot, lv_has ls 6 [(4, .int (nI sc)), (2, .int (iI ((bsM (fun s => gtM (waysM cl (ai 0) (sna 0) (spa 0) (hea 0) (fm 0)) (absd (spa 0) (hea 0)) s tm tk) sc).1))), (3, .int (iI (lsv (bsM (fun s => gtM (waysM cl (ai 0) (sna 0) (spa 0) (hea 0) (fm 0)) (absd (spa 0) (hea 0)) s tm tk) sc)))), (0, .ref rr), (1, .int (iI z))] → W p l e (headSpec wsX7_lines ({ frames := 4, cells := 0, slots := 0, locals := 96 })).room s m ([.ref rr, .int (iI z)] : List Value).toArray below meth c H locs 0 0 (MQ below (va_Qi (fun (r : Int32) ((lg', vg', li') : (Nat → Nat) × (Nat → Nat) × (Nat → Nat)) => r = (iI (-4))) (ctB D cI cC (fun ((lg', vg', li') : (Nat → Nat) × (Nat → Nat) × (Nat → Nat)) => [(rr, eMod ad len kp uo tm em pc0), (ad 2, eArr cI 2 fm), (ad 3, eArr cI 8 pq), (ad 4, eArr cI 8 dq), (ad 5, eArr cI 8 kq), (ad 6, eArr cI 2 ai), (ad 13, eArr cI 4 sna), (ad 11, eArr cI 4 spa), (ad 12, eArr cI 4 hea), (ad 20, eArr cI 150 lg'), (ad 21, eArr cI 150 vg'), (ad 22, eArr cI 6 li'), (ad 15, eArr cI 6 tk)]) A) A) ([.ref rr, .int (iI z)] : List Value).toArray s 0 0 A) (F0 m 26 ls []) := by
    intro nn26
    induction nn26 with
    | zero =>
      intro sc lg' vg' li' hm4
      exact absurd hm4 (Nat.not_lt_zero _)
    | succ nn26 ih26 =>
      intro sc lg' vg' li' hm4 hi5 H locs hP hD hS ls hl
      refine lv_iload hx hb dX7_lines_26 (lv_at hl 0 rfl) ?_
      refine lv_iconst (v := (nI 1)) hx hb dX7_lines_28 (by decide) ?_
      refine lv_iconst (v := (nI 2)) hx hb dX7_lines_29 (by decide) ?_
      refine lv_aload_n hx hb dX7_lines_30 rfl (lv_at hl 3 rfl) ?_
      refine va_get (D := D) (ci := 7) (v := .int (nI tm)) (C := RX7) (T := TX7) (N := 28) hx hb hts inX7 hown hK hP 0 rfl rfl 17 (by decide) fl148 (fun _ h9 => h9) rfl dX7_lines_31 ?_
      refine x_imul hx hb dX7_lines_34 ?_
      refine x_shl1 hx hb dX7_lines_35 (by omega) ?_
      refine x_icmp_ge (tgt := 76) hx hb dX7_lines_36 (by decide) (by omega) (by omega) (fun h6 => ?_) (fun h6 => ?_)
      · obtain rfl : sc = 2 ^ (2 * tm) := by omega
        rw [show (iI ((bsM (fun s => gtM (waysM cl (ai 0) (sna 0) (spa 0) (hea 0) (fm 0)) (absd (spa 0) (hea 0)) s tm tk) (2 ^ (2 * tm))).1)) = (iI (-4)) from congrArg iI hbs] at hl
        refine lv_iload_n hx hb dX7_lines_76 rfl (lv_at hl 1 rfl) ?_
        refine z_if_lt (tgt := 88) hx hb dX7_lines_77 (by decide) (by omega) (fun h7 => ?_) (fun h7 => False.elim (by omega))
        refine lv_bipush (v := (iI (-4))) hx hb dX7_lines_88 (by decide) ?_
        exact x_iret hx hb hr hlocks dX7_lines_90 rfl (post := fun (r : Int32) ((lg', vg', li') : (Nat → Nat) × (Nat → Nat) × (Nat → Nat)) => r = (iI (-4))) (w1 := fun ((lg', vg', li') : (Nat → Nat) × (Nat → Nat) × (Nat → Nat)) => [(rr, eMod ad len kp uo tm em pc0), (ad 2, eArr cI 2 fm), (ad 3, eArr cI 8 pq), (ad 4, eArr cI 8 dq), (ad 5, eArr cI 8 kq), (ad 6, eArr cI 2 ai), (ad 13, eArr cI 4 sna), (ad 11, eArr cI 4 spa), (ad 12, eArr cI 4 hea), (ad 20, eArr cI 150 lg'), (ad 21, eArr cI 150 vg'), (ad 22, eArr cI 6 li'), (ad 15, eArr cI 6 tk)]) (lg', vg', li') rfl hK hP hD hS
      · have hbd := bsM_bd (fun s => gtM (waysM cl (ai 0) (sna 0) (spa 0) (hea 0) (fm 0)) (absd (spa 0) (hea 0)) s tm tk) sc
        have hlv := lsv_bd (fun s => gtM (waysM cl (ai 0) (sna 0) (spa 0) (hea 0) (fm 0)) (absd (spa 0) (hea 0)) s tm tk) sc
        refine lv_aload_n hx hb dX7_lines_39 rfl (lv_at hl 3 rfl) ?_
        refine lv_iload hx hb dX7_lines_40 (lv_at hl 0 rfl) ?_
        refine k_V (q := (RX7, TX7, 28)) (ci := 7) (As := [.int (nI sc)]) (wr := [(ad 2, eArr cI 2 fm), (ad 3, eArr cI 8 pq), (ad 4, eArr cI 8 dq), (ad 5, eArr cI 8 kq), (ad 6, eArr cI 2 ai), (ad 13, eArr cI 4 sna), (ad 11, eArr cI 4 spa), (ad 12, eArr cI 4 hea), (ad 20, eArr cI 150 lg'), (ad 21, eArr cI 150 vg'), (ad 15, eArr cI 6 tk)]) ⟨hx, hb, hml, hown, hts⟩ (c_X7_takeLines l D cI cC rr ad len kp uo tm em pc0 li' sc (by omega) (by omega)) (cwV 1 hts gX7_lines_X7_takeLines rfl rfl rfl (by decide +kernel) ⟨Nat.le_of_ble_eq_true rfl, Nat.le_of_ble_eq_true rfl⟩) rfl hl.1 rfl (Nat.le_of_ble_eq_true rfl) dX7_lines_42 ⟨Nat.zero_le _, Nat.zero_le _⟩ hN hK hP hD hS hA rfl (q0 := 0) rfl [0, 11] [1, 2, 3, 4, 5, 6, 7, 8, 9, 10, 12] rfl rfl ⟨rfl, rfl, by decide⟩ (fun r8 u H locs w9 hP hD hS => ?_)
        obtain rfl : r8 = (nI (dgM sc tm)) := w9
        refine x_top (show nI (dgM sc tm) = nI (wiM sc) from congrArg nI (dg_wi (by omega) (by omega))) ?_
        have hw6 := wiM_6 sc (by omega)
        refine lv_istore (lv' := [(5, .int (nI (wiM sc))), (4, .int (nI sc)), (2, .int (iI ((bsM (fun s => gtM (waysM cl (ai 0) (sna 0) (spa 0) (hea 0) (fm 0)) (absd (spa 0) (hea 0)) s tm tk) sc).1))), (3, .int (iI (lsv (bsM (fun s => gtM (waysM cl (ai 0) (sna 0) (spa 0) (hea 0) (fm 0)) (absd (spa 0) (hea 0)) s tm tk) sc)))), (0, .ref rr), (1, .int (iI z))]) hx hb dX7_lines_45 hl (by decide) rfl (fun ls hl => ?_)
        refine lv_iload_n hx hb dX7_lines_47 rfl (lv_at hl 2 rfl) ?_
        refine z_if_lt (tgt := 57) hx hb dX7_lines_48 (by decide) (by omega) (fun h10 => ?_) (fun h10 => ?_)
        · refine lv_aload_n hx hb dX7_lines_57 rfl (lv_at hl 4 rfl) ?_
          refine k_V (q := (RX7, TX7, 28)) (ci := 7) (As := []) (wr := []) ⟨hx, hb, hml, hown, hts⟩ (c_X7_isTalk l D cI cC rr ad len kp uo tm em pc0 fm pq dq kq ai sna spa hea lg' vg' cl hrc hok (by omega) (tlM li' sc tm tm) tk (fun j hj => by rw [tlM_at hj]; exact lineM_3 _ _ _) (by omega) (by omega) (by omega)) (cwV 0 hts gX7_lines_X7_isTalk rfl rfl rfl (by decide +kernel) ⟨Nat.le_of_ble_eq_true rfl, Nat.le_of_ble_eq_true rfl⟩) rfl hl.1 rfl (Nat.le_of_ble_eq_true rfl) dX7_lines_58 ⟨Nat.zero_le _, Nat.zero_le _⟩ hN hK hP hD hS hA rfl (q0 := 11) rfl [11, 0, 1, 2, 3, 4, 5, 6, 7, 8, 9, 12, 10] [] rfl rfl ⟨rfl, rfl, by decide⟩ (fun r11 u H locs w12 hP hD hS => ?_)
          obtain ⟨rfl, h13⟩ | ⟨rfl, h14⟩ : (r11 = (nI 1) ∧ itM (waysM cl (ai 0) (sna 0) (spa 0) (hea 0) (fm 0)) (absd (spa 0) (hea 0)) (tlM li' sc tm tm) tk tm = true) ∨ (r11 = (nI 0) ∧ itM (waysM cl (ai 0) (sna 0) (spa 0) (hea 0) (fm 0)) (absd (spa 0) (hea 0)) (tlM li' sc tm tm) tk tm = false) := w12
          · have hgt : gtM (waysM cl (ai 0) (sna 0) (spa 0) (hea 0) (fm 0)) (absd (spa 0) (hea 0)) sc tm tk = true := by rw [← it_gt (absd_le (by omega) (by omega)) (by omega), ← itM_cg (ln := tlM li' sc tm tm) (fun k hk => tlM_at hk)]; exact h13
            refine x_if_eq (tgt := 70) hx hb dX7_lines_61 (by decide) (by omega) (fun h15 => False.elim (by omega)) (fun h15 => ?_)
            refine lv_iload hx hb dX7_lines_64 (lv_at hl 1 rfl) ?_
            refine lv_istore_n (lv' := [(2, .int (nI sc)), (5, .int (nI (wiM sc))), (4, .int (nI sc)), (3, .int (iI (lsv (bsM (fun s => gtM (waysM cl (ai 0) (sna 0) (spa 0) (hea 0) (fm 0)) (absd (spa 0) (hea 0)) s tm tk) sc)))), (0, .ref rr), (1, .int (iI z))]) hx hb dX7_lines_66 rfl hl (by decide) rfl (fun ls hl => ?_)
            refine lv_iload hx hb dX7_lines_67 (lv_at hl 1 rfl) ?_
            refine lv_istore_n (lv' := [(3, .int (nI (wiM sc))), (2, .int (nI sc)), (5, .int (nI (wiM sc))), (4, .int (nI sc)), (0, .ref rr), (1, .int (iI z))]) hx hb dX7_lines_69 rfl hl (by decide) rfl (fun ls hl => ?_)
            refine lv_iinc (v := (nI (sc + 1))) (lv' := [(4, .int (nI (sc + 1))), (3, .int (nI (wiM sc))), (2, .int (nI sc)), (5, .int (nI (wiM sc))), (0, .ref rr), (1, .int (iI z))]) hx hb dX7_lines_70 hl (k := 3) rfl (nI_inc _ 1) (by decide) rfl (fun ls hl => ?_)
            refine lv_goto (tgt := 26) hx hb dX7_lines_73 (by decide) ?_
            have hl : lv_has ls 6 [(4, .int (nI (sc + 1))), (2, .int (iI ((bsM (fun s => gtM (waysM cl (ai 0) (sna 0) (spa 0) (hea 0) (fm 0)) (absd (spa 0) (hea 0)) s tm tk) (sc + 1)).1))), (3, .int (iI (lsv (bsM (fun s => gtM (waysM cl (ai 0) (sna 0) (spa 0) (hea 0) (fm 0)) (absd (spa 0) (hea 0)) s tm tk) (sc + 1))))), (0, .ref rr), (1, .int (iI z))] := by have h := hl; have e := rbs_t (ok := (fun s => gtM (waysM cl (ai 0) (sna 0) (spa 0) (hea 0) (fm 0)) (absd (spa 0) (hea 0)) s tm tk)) (s := sc) (by omega) hgt (by omega); rw [e, lsv_nat]; have h := lv_sub h [0, 2, 1, 4, 5] rfl; simp only [nI_iI] at h ⊢; exact h
            exact ih26 (sc + 1) ((tkM (waysM cl (ai 0) (sna 0) (spa 0) (hea 0) (fm 0)) (tlM li' sc tm tm) tm).1) ((tkM (waysM cl (ai 0) (sna 0) (spa 0) (hea 0) (fm 0)) (tlM li' sc tm tm) tm).2) (tlM li' sc tm tm) (by omega) (by omega) _ _ (hP.sub [0, 1, 2, 3, 4, 5, 6, 7, 8, 9, 10, 11, 12] rfl) (hD.sub [0, 1, 2, 3, 4, 5, 6, 7, 8, 9, 10, 11, 12] rfl rfl) hS _ (lv_sub hl [0, 1, 2, 3, 4] rfl)
          · have hgt : gtM (waysM cl (ai 0) (sna 0) (spa 0) (hea 0) (fm 0)) (absd (spa 0) (hea 0)) sc tm tk = false := by rw [← it_gt (absd_le (by omega) (by omega)) (by omega), ← itM_cg (ln := tlM li' sc tm tm) (fun k hk => tlM_at hk)]; exact h14
            refine x_if_eq (tgt := 70) hx hb dX7_lines_61 (by decide) (by omega) (fun h16 => ?_) (fun h16 => False.elim (by omega))
            refine lv_iinc (v := (nI (sc + 1))) (lv' := [(4, .int (nI (sc + 1))), (5, .int (nI (wiM sc))), (2, .int (iI ((bsM (fun s => gtM (waysM cl (ai 0) (sna 0) (spa 0) (hea 0) (fm 0)) (absd (spa 0) (hea 0)) s tm tk) sc).1))), (3, .int (iI (lsv (bsM (fun s => gtM (waysM cl (ai 0) (sna 0) (spa 0) (hea 0) (fm 0)) (absd (spa 0) (hea 0)) s tm tk) sc)))), (0, .ref rr), (1, .int (iI z))]) hx hb dX7_lines_70 hl (k := 1) rfl (nI_inc _ 1) (by decide) rfl (fun ls hl => ?_)
            refine lv_goto (tgt := 26) hx hb dX7_lines_73 (by decide) ?_
            have hl : lv_has ls 6 [(4, .int (nI (sc + 1))), (2, .int (iI ((bsM (fun s => gtM (waysM cl (ai 0) (sna 0) (spa 0) (hea 0) (fm 0)) (absd (spa 0) (hea 0)) s tm tk) (sc + 1)).1))), (3, .int (iI (lsv (bsM (fun s => gtM (waysM cl (ai 0) (sna 0) (spa 0) (hea 0) (fm 0)) (absd (spa 0) (hea 0)) s tm tk) (sc + 1))))), (0, .ref rr), (1, .int (iI z))] := by have h := hl; have e := rbs_f (ok := (fun s => gtM (waysM cl (ai 0) (sna 0) (spa 0) (hea 0) (fm 0)) (absd (spa 0) (hea 0)) s tm tk)) (s := sc) (Or.inr hgt); rw [e]; have h := lv_sub h [0, 2, 3, 4, 5] rfl; simp only [nI_iI] at h ⊢; exact h
            exact ih26 (sc + 1) ((tkM (waysM cl (ai 0) (sna 0) (spa 0) (hea 0) (fm 0)) (tlM li' sc tm tm) tm).1) ((tkM (waysM cl (ai 0) (sna 0) (spa 0) (hea 0) (fm 0)) (tlM li' sc tm tm) tm).2) (tlM li' sc tm tm) (by omega) (by omega) _ _ (hP.sub [0, 1, 2, 3, 4, 5, 6, 7, 8, 9, 10, 11, 12] rfl) (hD.sub [0, 1, 2, 3, 4, 5, 6, 7, 8, 9, 10, 11, 12] rfl rfl) hS _ (lv_sub hl [0, 1, 2, 3, 4] rfl)
        · refine lv_iload hx hb dX7_lines_51 (lv_at hl 0 rfl) ?_
          refine lv_iload_n hx hb dX7_lines_53 rfl (lv_at hl 3 rfl) ?_
          refine x_top2 (nI_iI _) ?_
          refine z_icmp_ge (tgt := 70) hx hb dX7_lines_54 (by decide) (by omega) (by omega) (fun h17 => ?_) (fun h17 => ?_)
          · refine lv_iinc (v := (nI (sc + 1))) (lv' := [(4, .int (nI (sc + 1))), (5, .int (nI (wiM sc))), (2, .int (iI ((bsM (fun s => gtM (waysM cl (ai 0) (sna 0) (spa 0) (hea 0) (fm 0)) (absd (spa 0) (hea 0)) s tm tk) sc).1))), (3, .int (iI (lsv (bsM (fun s => gtM (waysM cl (ai 0) (sna 0) (spa 0) (hea 0) (fm 0)) (absd (spa 0) (hea 0)) s tm tk) sc)))), (0, .ref rr), (1, .int (iI z))]) hx hb dX7_lines_70 hl (k := 1) rfl (nI_inc _ 1) (by decide) rfl (fun ls hl => ?_)
            refine lv_goto (tgt := 26) hx hb dX7_lines_73 (by decide) ?_
            have hl : lv_has ls 6 [(4, .int (nI (sc + 1))), (2, .int (iI ((bsM (fun s => gtM (waysM cl (ai 0) (sna 0) (spa 0) (hea 0) (fm 0)) (absd (spa 0) (hea 0)) s tm tk) (sc + 1)).1))), (3, .int (iI (lsv (bsM (fun s => gtM (waysM cl (ai 0) (sna 0) (spa 0) (hea 0) (fm 0)) (absd (spa 0) (hea 0)) s tm tk) (sc + 1))))), (0, .ref rr), (1, .int (iI z))] := by have h := hl; have e := rbs_f (ok := (fun s => gtM (waysM cl (ai 0) (sna 0) (spa 0) (hea 0) (fm 0)) (absd (spa 0) (hea 0)) s tm tk)) (s := sc) (Or.inl (by omega)); rw [e]; have h := lv_sub h [0, 2, 3, 4, 5] rfl; simp only [nI_iI] at h ⊢; exact h
            exact ih26 (sc + 1) lg' vg' (tlM li' sc tm tm) (by omega) (by omega) _ _ (hP.sub [11, 0, 1, 2, 3, 4, 5, 6, 7, 8, 9, 12, 10] rfl) (hD.sub [11, 0, 1, 2, 3, 4, 5, 6, 7, 8, 9, 12, 10] rfl rfl) hS _ (lv_sub hl [0, 1, 2, 3, 4] rfl)
          · refine lv_aload_n hx hb dX7_lines_57 rfl (lv_at hl 4 rfl) ?_
            refine k_V (q := (RX7, TX7, 28)) (ci := 7) (As := []) (wr := []) ⟨hx, hb, hml, hown, hts⟩ (c_X7_isTalk l D cI cC rr ad len kp uo tm em pc0 fm pq dq kq ai sna spa hea lg' vg' cl hrc hok (by omega) (tlM li' sc tm tm) tk (fun j hj => by rw [tlM_at hj]; exact lineM_3 _ _ _) (by omega) (by omega) (by omega)) (cwV 0 hts gX7_lines_X7_isTalk rfl rfl rfl (by decide +kernel) ⟨Nat.le_of_ble_eq_true rfl, Nat.le_of_ble_eq_true rfl⟩) rfl hl.1 rfl (Nat.le_of_ble_eq_true rfl) dX7_lines_58 ⟨Nat.zero_le _, Nat.zero_le _⟩ hN hK hP hD hS hA rfl (q0 := 11) rfl [11, 0, 1, 2, 3, 4, 5, 6, 7, 8, 9, 12, 10] [] rfl rfl ⟨rfl, rfl, by decide⟩ (fun r18 u H locs w19 hP hD hS => ?_)
            obtain ⟨rfl, h20⟩ | ⟨rfl, h21⟩ : (r18 = (nI 1) ∧ itM (waysM cl (ai 0) (sna 0) (spa 0) (hea 0) (fm 0)) (absd (spa 0) (hea 0)) (tlM li' sc tm tm) tk tm = true) ∨ (r18 = (nI 0) ∧ itM (waysM cl (ai 0) (sna 0) (spa 0) (hea 0) (fm 0)) (absd (spa 0) (hea 0)) (tlM li' sc tm tm) tk tm = false) := w19
            · have hgt : gtM (waysM cl (ai 0) (sna 0) (spa 0) (hea 0) (fm 0)) (absd (spa 0) (hea 0)) sc tm tk = true := by rw [← it_gt (absd_le (by omega) (by omega)) (by omega), ← itM_cg (ln := tlM li' sc tm tm) (fun k hk => tlM_at hk)]; exact h20
              refine x_if_eq (tgt := 70) hx hb dX7_lines_61 (by decide) (by omega) (fun h22 => False.elim (by omega)) (fun h22 => ?_)
              refine lv_iload hx hb dX7_lines_64 (lv_at hl 1 rfl) ?_
              refine lv_istore_n (lv' := [(2, .int (nI sc)), (5, .int (nI (wiM sc))), (4, .int (nI sc)), (3, .int (iI (lsv (bsM (fun s => gtM (waysM cl (ai 0) (sna 0) (spa 0) (hea 0) (fm 0)) (absd (spa 0) (hea 0)) s tm tk) sc)))), (0, .ref rr), (1, .int (iI z))]) hx hb dX7_lines_66 rfl hl (by decide) rfl (fun ls hl => ?_)
              refine lv_iload hx hb dX7_lines_67 (lv_at hl 1 rfl) ?_
              refine lv_istore_n (lv' := [(3, .int (nI (wiM sc))), (2, .int (nI sc)), (5, .int (nI (wiM sc))), (4, .int (nI sc)), (0, .ref rr), (1, .int (iI z))]) hx hb dX7_lines_69 rfl hl (by decide) rfl (fun ls hl => ?_)
              refine lv_iinc (v := (nI (sc + 1))) (lv' := [(4, .int (nI (sc + 1))), (3, .int (nI (wiM sc))), (2, .int (nI sc)), (5, .int (nI (wiM sc))), (0, .ref rr), (1, .int (iI z))]) hx hb dX7_lines_70 hl (k := 3) rfl (nI_inc _ 1) (by decide) rfl (fun ls hl => ?_)
              refine lv_goto (tgt := 26) hx hb dX7_lines_73 (by decide) ?_
              have hl : lv_has ls 6 [(4, .int (nI (sc + 1))), (2, .int (iI ((bsM (fun s => gtM (waysM cl (ai 0) (sna 0) (spa 0) (hea 0) (fm 0)) (absd (spa 0) (hea 0)) s tm tk) (sc + 1)).1))), (3, .int (iI (lsv (bsM (fun s => gtM (waysM cl (ai 0) (sna 0) (spa 0) (hea 0) (fm 0)) (absd (spa 0) (hea 0)) s tm tk) (sc + 1))))), (0, .ref rr), (1, .int (iI z))] := by have h := hl; have e := rbs_t (ok := (fun s => gtM (waysM cl (ai 0) (sna 0) (spa 0) (hea 0) (fm 0)) (absd (spa 0) (hea 0)) s tm tk)) (s := sc) (by omega) hgt (by omega); rw [e, lsv_nat]; have h := lv_sub h [0, 2, 1, 4, 5] rfl; simp only [nI_iI] at h ⊢; exact h
              exact ih26 (sc + 1) ((tkM (waysM cl (ai 0) (sna 0) (spa 0) (hea 0) (fm 0)) (tlM li' sc tm tm) tm).1) ((tkM (waysM cl (ai 0) (sna 0) (spa 0) (hea 0) (fm 0)) (tlM li' sc tm tm) tm).2) (tlM li' sc tm tm) (by omega) (by omega) _ _ (hP.sub [0, 1, 2, 3, 4, 5, 6, 7, 8, 9, 10, 11, 12] rfl) (hD.sub [0, 1, 2, 3, 4, 5, 6, 7, 8, 9, 10, 11, 12] rfl rfl) hS _ (lv_sub hl [0, 1, 2, 3, 4] rfl)
            · have hgt : gtM (waysM cl (ai 0) (sna 0) (spa 0) (hea 0) (fm 0)) (absd (spa 0) (hea 0)) sc tm tk = false := by rw [← it_gt (absd_le (by omega) (by omega)) (by omega), ← itM_cg (ln := tlM li' sc tm tm) (fun k hk => tlM_at hk)]; exact h21
              refine x_if_eq (tgt := 70) hx hb dX7_lines_61 (by decide) (by omega) (fun h23 => ?_) (fun h23 => False.elim (by omega))
              refine lv_iinc (v := (nI (sc + 1))) (lv' := [(4, .int (nI (sc + 1))), (5, .int (nI (wiM sc))), (2, .int (iI ((bsM (fun s => gtM (waysM cl (ai 0) (sna 0) (spa 0) (hea 0) (fm 0)) (absd (spa 0) (hea 0)) s tm tk) sc).1))), (3, .int (iI (lsv (bsM (fun s => gtM (waysM cl (ai 0) (sna 0) (spa 0) (hea 0) (fm 0)) (absd (spa 0) (hea 0)) s tm tk) sc)))), (0, .ref rr), (1, .int (iI z))]) hx hb dX7_lines_70 hl (k := 1) rfl (nI_inc _ 1) (by decide) rfl (fun ls hl => ?_)
              refine lv_goto (tgt := 26) hx hb dX7_lines_73 (by decide) ?_
              have hl : lv_has ls 6 [(4, .int (nI (sc + 1))), (2, .int (iI ((bsM (fun s => gtM (waysM cl (ai 0) (sna 0) (spa 0) (hea 0) (fm 0)) (absd (spa 0) (hea 0)) s tm tk) (sc + 1)).1))), (3, .int (iI (lsv (bsM (fun s => gtM (waysM cl (ai 0) (sna 0) (spa 0) (hea 0) (fm 0)) (absd (spa 0) (hea 0)) s tm tk) (sc + 1))))), (0, .ref rr), (1, .int (iI z))] := by have h := hl; have e := rbs_f (ok := (fun s => gtM (waysM cl (ai 0) (sna 0) (spa 0) (hea 0) (fm 0)) (absd (spa 0) (hea 0)) s tm tk)) (s := sc) (Or.inr hgt); rw [e]; have h := lv_sub h [0, 2, 3, 4, 5] rfl; simp only [nI_iI] at h ⊢; exact h
              exact ih26 (sc + 1) ((tkM (waysM cl (ai 0) (sna 0) (spa 0) (hea 0) (fm 0)) (tlM li' sc tm tm) tm).1) ((tkM (waysM cl (ai 0) (sna 0) (spa 0) (hea 0) (fm 0)) (tlM li' sc tm tm) tm).2) (tlM li' sc tm tm) (by omega) (by omega) _ _ (hP.sub [0, 1, 2, 3, 4, 5, 6, 7, 8, 9, 10, 11, 12] rfl) (hD.sub [0, 1, 2, 3, 4, 5, 6, 7, 8, 9, 10, 11, 12] rfl rfl) hS _ (lv_sub hl [0, 1, 2, 3, 4] rfl)
  exact loop26 _ 0 lg vg li (Nat.lt_succ_self _) (Nat.zero_le _) _ _ (hP.sub [0, 1, 2, 3, 4, 5, 6, 7, 8, 9, 10, 11, 12] rfl) (hD.sub [0, 1, 2, 3, 4, 5, 6, 7, 8, 9, 10, 11, 12] rfl rfl) hS _ (lv_sub hl [0, 2, 1, 3, 4] rfl)

set_option maxRecDepth 100000 in
set_option maxHeartbeats 4000000 in
theorem c_X7_lines_cnt (l : Launch) (D : va_G) (cI cC : ClassId) (rr : Nat) (ad : Nat → Nat) (len : Nat) (kp : Nat) (uo : Nat) (tm : Nat) (em : Nat) (pc0 : Nat) (fm : Nat → Nat) (pq : Nat → Nat) (dq : Nat → Nat) (kq : Nat → Nat) (ai : Nat → Nat) (sna : Nat → Nat) (spa : Nat → Nat) (hea : Nat → Nat) (lg : Nat → Nat) (vg : Nat → Nat) (cl : Nat → Nat) (hrc : relC pq dq kq cl (fm 0)) (hok : okC cl (fm 0)) (hfm : fm 0 ≤ 4 ∧ ai 0 ≤ 99 ∧ sna 0 < 2147483648) (li : Nat → Nat) (tk : Nat → Nat) (htk : ∀ j, j < tm → tk j ≤ 3) (htm6 : 1 ≤ tm ∧ tm ≤ 6) (hsp : spa 0 ≤ 40 ∧ hea 0 ≤ 40) (sd : Nat) (hsd : sd < 2 ^ (2 * tm)) (hbs : (bsM (fun s => gtM (waysM cl (ai 0) (sna 0) (spa 0) (hea 0) (fm 0)) (absd (spa 0) (hea 0)) s tm tk) (2 ^ (2 * tm))).1 = (sd : Int)) : mtI l D cI cC yX7_lines wsX7_lines ({ frames := 4, cells := 0, slots := 0, locals := 96 }) [.ref rr, .int (iI (-1))] [(rr, eMod ad len kp uo tm em pc0), (ad 2, eArr cI 2 fm), (ad 3, eArr cI 8 pq), (ad 4, eArr cI 8 dq), (ad 5, eArr cI 8 kq), (ad 6, eArr cI 2 ai), (ad 13, eArr cI 4 sna), (ad 11, eArr cI 4 spa), (ad 12, eArr cI 4 hea), (ad 20, eArr cI 150 lg), (ad 21, eArr cI 150 vg), (ad 22, eArr cI 6 li), (ad 15, eArr cI 6 tk)] (fun (r : Int32) ((lg', vg', li') : (Nat → Nat) × (Nat → Nat) × (Nat → Nat)) => r = (nI (wiM sd))) (fun ((lg', vg', li') : (Nat → Nat) × (Nat → Nat) × (Nat → Nat)) => [(rr, eMod ad len kp uo tm em pc0), (ad 2, eArr cI 2 fm), (ad 3, eArr cI 8 pq), (ad 4, eArr cI 8 dq), (ad 5, eArr cI 8 kq), (ad 6, eArr cI 2 ai), (ad 13, eArr cI 4 sna), (ad 11, eArr cI 4 spa), (ad 12, eArr cI 4 hea), (ad 20, eArr cI 150 lg'), (ad 21, eArr cI 150 vg'), (ad 22, eArr cI 6 li'), (ad 15, eArr cI 6 tk)]) := by
  refine mtI_of (cc := cX7_lines) (maxL := 6) (ret := (some .int)) (by decide) rfl rfl ?_
  intro p e s m below meth c A hx hb hml hr hts hown hlocks hN hA hK hP hD hS ls hl
  have hown : s.vm.findClass RX7 = some m.cls := hown
  have hl : lv_has ls 6 [(0, .ref rr), (1, .int (iI (-1)))] := hl
  obtain ⟨H, hHe⟩ : ∃ H, H = s.heap := ⟨_, rfl⟩
  rw [← hHe] at hP ⊢
  have hS : va_S A s.heap H [] := by rw [hHe]; exact va_S.rf
  have fl148 := hts (.fieldLink RX7 148 "EchoPaysRentModel" "talkMany" "I") (by decide +kernel)
  have inX7 : ∀ w ∈ wsX70, w ∈ wsX7_lines := by decide +kernel
  have f1 : 2 ^ (2 * tm) ≤ 4096 := pow12 (by omega)
  refine lv_iload_n hx hb dX7_lines_0 rfl (lv_at hl 1 rfl) ?_
  refine lv_iconst (v := (iI (-1))) hx hb dX7_lines_1 (by decide) ?_
  refine z_icmp_ge (tgt := 7) hx hb dX7_lines_2 (by decide) (by omega) (by omega) (fun h2 => ?_) (fun h2 => False.elim (by omega))
  refine lv_aload_n hx hb dX7_lines_7 rfl (lv_at hl 0 rfl) ?_
  refine va_get (D := D) (ci := 7) (v := .int (nI tm)) (C := RX7) (T := TX7) (N := 28) hx hb hts inX7 hown hK hP 0 rfl rfl 17 (by decide) fl148 (fun _ h9 => h9) rfl dX7_lines_8 ?_
  refine x_if_ne (tgt := 17) hx hb dX7_lines_11 (by decide) (by omega) (fun h3 => ?_) (fun h3 => False.elim (by omega))
  refine lv_bipush (v := (iI (-4))) hx hb dX7_lines_17 (by decide) ?_
  refine lv_istore_n (lv' := [(2, .int (iI (-4))), (0, .ref rr), (1, .int (iI (-1)))]) hx hb dX7_lines_19 rfl hl (by decide) rfl (fun ls hl => ?_)
  refine lv_bipush (v := (iI (-4))) hx hb dX7_lines_20 (by decide) ?_
  refine lv_istore_n (lv' := [(3, .int (iI (-4))), (2, .int (iI (-4))), (0, .ref rr), (1, .int (iI (-1)))]) hx hb dX7_lines_22 rfl hl (by decide) rfl (fun ls hl => ?_)
  refine lv_iconst (v := (nI 0)) hx hb dX7_lines_23 (by decide) ?_
  refine lv_istore (lv' := [(4, .int (nI 0)), (3, .int (iI (-4))), (2, .int (iI (-4))), (0, .ref rr), (1, .int (iI (-1)))]) hx hb dX7_lines_24 hl (by decide) rfl (fun ls hl => ?_)
  have loop26 : ∀ (nn26 : Nat) (sc : Nat) (lg' : Nat → Nat) (vg' : Nat → Nat) (li' : Nat → Nat), 2 ^ (2 * tm) - sc < nn26 → (sc ≤ 2 ^ (2 * tm)) → ∀ (H : Heap) (locs : List Loc), va_P D vwCl [(rr, eMod ad len kp uo tm em pc0), (ad 2, eArr cI 2 fm), (ad 3, eArr cI 8 pq), (ad 4, eArr cI 8 dq), (ad 5, eArr cI 8 kq), (ad 6, eArr cI 2 ai), (ad 13, eArr cI 4 sna), (ad 11, eArr cI 4 spa), (ad 12, eArr cI 4 hea), (ad 20, eArr cI 150 lg'), (ad 21, eArr cI 150 vg'), (ad 22, eArr cI 6 li'), (ad 15, eArr cI 6 tk)] H → va_D A [(rr, eMod ad len kp uo tm em pc0), (ad 2, eArr cI 2 fm), (ad 3, eArr cI 8 pq), (ad 4, eArr cI 8 dq), (ad 5, eArr cI 8 kq), (ad 6, eArr cI 2 ai), (ad 13, eArr cI 4 sna), (ad 11, eArr cI 4 spa), (ad 12, eArr cI 4 hea), (ad 20, eArr cI 150 lg'), (ad 21, eArr cI 150 vg'), (ad 22, eArr cI 6 li'), (ad 15, eArr cI 6 tk)] → va_S A s.heap H locs → ∀ ls : Array Slot, lv_has ls 6 [(4, .int (nI sc)), (2, .int (iI ((bsM (fun s => gtM (waysM cl (ai 0) (sna 0) (spa 0) (hea 0) (fm 0)) (absd (spa 0) (hea 0)) s tm tk) sc).1))), (3, .int (iI (lsv (bsM (fun s => gtM (waysM cl (ai 0) (sna 0) (spa 0) (hea 0) (fm 0)) (absd (spa 0) (hea 0)) s tm tk) sc)))), (0, .ref rr), (1, .int (iI (-1)))] → W p l e (headSpec wsX7_lines ({ frames := 4, cells := 0, slots := 0, locals := 96 })).room s m ([.ref rr, .int (iI (-1))] : List Value).toArray below meth c H locs 0 0 (MQ below (va_Qi (fun (r : Int32) ((lg', vg', li') : (Nat → Nat) × (Nat → Nat) × (Nat → Nat)) => r = (nI (wiM sd))) (ctB D cI cC (fun ((lg', vg', li') : (Nat → Nat) × (Nat → Nat) × (Nat → Nat)) => [(rr, eMod ad len kp uo tm em pc0), (ad 2, eArr cI 2 fm), (ad 3, eArr cI 8 pq), (ad 4, eArr cI 8 dq), (ad 5, eArr cI 8 kq), (ad 6, eArr cI 2 ai), (ad 13, eArr cI 4 sna), (ad 11, eArr cI 4 spa), (ad 12, eArr cI 4 hea), (ad 20, eArr cI 150 lg'), (ad 21, eArr cI 150 vg'), (ad 22, eArr cI 6 li'), (ad 15, eArr cI 6 tk)]) A) A) ([.ref rr, .int (iI (-1))] : List Value).toArray s 0 0 A) (F0 m 26 ls []) := by
    intro nn26
    induction nn26 with
    | zero =>
      intro sc lg' vg' li' hm4
      exact absurd hm4 (Nat.not_lt_zero _)
    | succ nn26 ih26 =>
      intro sc lg' vg' li' hm4 hi5 H locs hP hD hS ls hl
      refine lv_iload hx hb dX7_lines_26 (lv_at hl 0 rfl) ?_
      refine lv_iconst (v := (nI 1)) hx hb dX7_lines_28 (by decide) ?_
      refine lv_iconst (v := (nI 2)) hx hb dX7_lines_29 (by decide) ?_
      refine lv_aload_n hx hb dX7_lines_30 rfl (lv_at hl 3 rfl) ?_
      refine va_get (D := D) (ci := 7) (v := .int (nI tm)) (C := RX7) (T := TX7) (N := 28) hx hb hts inX7 hown hK hP 0 rfl rfl 17 (by decide) fl148 (fun _ h9 => h9) rfl dX7_lines_31 ?_
      refine x_imul hx hb dX7_lines_34 ?_
      refine x_shl1 hx hb dX7_lines_35 (by omega) ?_
      refine x_icmp_ge (tgt := 76) hx hb dX7_lines_36 (by decide) (by omega) (by omega) (fun h6 => ?_) (fun h6 => ?_)
      · obtain rfl : sc = 2 ^ (2 * tm) := by omega
        rw [show (iI ((bsM (fun s => gtM (waysM cl (ai 0) (sna 0) (spa 0) (hea 0) (fm 0)) (absd (spa 0) (hea 0)) s tm tk) (2 ^ (2 * tm))).1)) = (nI sd) from by rw [hbs, nI_iI]] at hl
        rw [show (iI (lsv (bsM (fun s => gtM (waysM cl (ai 0) (sna 0) (spa 0) (hea 0) (fm 0)) (absd (spa 0) (hea 0)) s tm tk) (2 ^ (2 * tm))))) = (nI (wiM sd)) from by rw [nI_iI]; unfold lsv; rw [if_neg (by rw [hbs]; omega), bsM_val _ hbs]] at hl
        refine lv_iload_n hx hb dX7_lines_76 rfl (lv_at hl 1 rfl) ?_
        refine x_if_lt (tgt := 88) hx hb dX7_lines_77 (by decide) (by omega) (fun h7 => False.elim (by omega)) (fun h7 => ?_)
        refine lv_iload_n hx hb dX7_lines_80 rfl (lv_at hl 4 rfl) ?_
        refine lv_aload_n hx hb dX7_lines_81 rfl (lv_at hl 3 rfl) ?_
        refine va_get (D := D) (ci := 7) (v := .int (nI tm)) (C := RX7) (T := TX7) (N := 28) hx hb hts inX7 hown hK hP 0 rfl rfl 17 (by decide) fl148 (fun _ h9 => h9) rfl dX7_lines_82 ?_
        refine x_top (nI_iI _) ?_
        refine z_icmp_lt (tgt := 91) hx hb dX7_lines_85 (by decide) (by omega) (by omega) (fun h8 => ?_) (fun h8 => False.elim (by omega))
        refine lv_aload_n hx hb dX7_lines_91 rfl (lv_at hl 3 rfl) ?_
        refine lv_iload_n hx hb dX7_lines_92 rfl (lv_at hl 1 rfl) ?_
        refine k_V (q := (RX7, TX7, 28)) (ci := 7) (As := [.int (nI sd)]) (wr := [(ad 2, eArr cI 2 fm), (ad 3, eArr cI 8 pq), (ad 4, eArr cI 8 dq), (ad 5, eArr cI 8 kq), (ad 6, eArr cI 2 ai), (ad 13, eArr cI 4 sna), (ad 11, eArr cI 4 spa), (ad 12, eArr cI 4 hea), (ad 20, eArr cI 150 lg'), (ad 21, eArr cI 150 vg'), (ad 15, eArr cI 6 tk)]) ⟨hx, hb, hml, hown, hts⟩ (c_X7_takeLines l D cI cC rr ad len kp uo tm em pc0 li' sd (by omega) (by omega)) (cwV 1 hts gX7_lines_X7_takeLines rfl rfl rfl (by decide +kernel) ⟨Nat.le_of_ble_eq_true rfl, Nat.le_of_ble_eq_true rfl⟩) rfl hl.1 rfl (Nat.le_of_ble_eq_true rfl) dX7_lines_93 ⟨Nat.zero_le _, Nat.zero_le _⟩ hN hK hP hD hS hA rfl (q0 := 0) rfl [0, 11] [1, 2, 3, 4, 5, 6, 7, 8, 9, 10, 12] rfl rfl ⟨rfl, rfl, by decide⟩ (fun r9 u H locs w10 hP hD hS => ?_)
        obtain rfl : r9 = (nI (dgM sd tm)) := w10
        refine lv_pop hx hb dX7_lines_96 rfl ?_
        refine lv_iload_n hx hb dX7_lines_97 rfl (lv_at hl 4 rfl) ?_
        refine z_if_ge (tgt := 105) hx hb dX7_lines_98 (by decide) (by omega) (fun h11 => False.elim (by omega)) (fun h11 => ?_)
        refine lv_iload_n hx hb dX7_lines_101 rfl (lv_at hl 2 rfl) ?_
        refine lv_goto (tgt := 111) hx hb dX7_lines_102 (by decide) ?_
        exact x_iret hx hb hr hlocks dX7_lines_111 rfl (post := fun (r : Int32) ((lg', vg', li') : (Nat → Nat) × (Nat → Nat) × (Nat → Nat)) => r = (nI (wiM sd))) (w1 := fun ((lg', vg', li') : (Nat → Nat) × (Nat → Nat) × (Nat → Nat)) => [(rr, eMod ad len kp uo tm em pc0), (ad 2, eArr cI 2 fm), (ad 3, eArr cI 8 pq), (ad 4, eArr cI 8 dq), (ad 5, eArr cI 8 kq), (ad 6, eArr cI 2 ai), (ad 13, eArr cI 4 sna), (ad 11, eArr cI 4 spa), (ad 12, eArr cI 4 hea), (ad 20, eArr cI 150 lg'), (ad 21, eArr cI 150 vg'), (ad 22, eArr cI 6 li'), (ad 15, eArr cI 6 tk)]) (lg', vg', tlM li' sd tm tm) rfl hK (hP.sub [11, 0, 1, 2, 3, 4, 5, 6, 7, 8, 9, 12, 10] rfl) (hD.sub [11, 0, 1, 2, 3, 4, 5, 6, 7, 8, 9, 12, 10] rfl rfl) hS
      · have hbd := bsM_bd (fun s => gtM (waysM cl (ai 0) (sna 0) (spa 0) (hea 0) (fm 0)) (absd (spa 0) (hea 0)) s tm tk) sc
        have hlv := lsv_bd (fun s => gtM (waysM cl (ai 0) (sna 0) (spa 0) (hea 0) (fm 0)) (absd (spa 0) (hea 0)) s tm tk) sc
        refine lv_aload_n hx hb dX7_lines_39 rfl (lv_at hl 3 rfl) ?_
        refine lv_iload hx hb dX7_lines_40 (lv_at hl 0 rfl) ?_
        refine k_V (q := (RX7, TX7, 28)) (ci := 7) (As := [.int (nI sc)]) (wr := [(ad 2, eArr cI 2 fm), (ad 3, eArr cI 8 pq), (ad 4, eArr cI 8 dq), (ad 5, eArr cI 8 kq), (ad 6, eArr cI 2 ai), (ad 13, eArr cI 4 sna), (ad 11, eArr cI 4 spa), (ad 12, eArr cI 4 hea), (ad 20, eArr cI 150 lg'), (ad 21, eArr cI 150 vg'), (ad 15, eArr cI 6 tk)]) ⟨hx, hb, hml, hown, hts⟩ (c_X7_takeLines l D cI cC rr ad len kp uo tm em pc0 li' sc (by omega) (by omega)) (cwV 1 hts gX7_lines_X7_takeLines rfl rfl rfl (by decide +kernel) ⟨Nat.le_of_ble_eq_true rfl, Nat.le_of_ble_eq_true rfl⟩) rfl hl.1 rfl (Nat.le_of_ble_eq_true rfl) dX7_lines_42 ⟨Nat.zero_le _, Nat.zero_le _⟩ hN hK hP hD hS hA rfl (q0 := 0) rfl [0, 11] [1, 2, 3, 4, 5, 6, 7, 8, 9, 10, 12] rfl rfl ⟨rfl, rfl, by decide⟩ (fun r12 u H locs w13 hP hD hS => ?_)
        obtain rfl : r12 = (nI (dgM sc tm)) := w13
        refine x_top (show nI (dgM sc tm) = nI (wiM sc) from congrArg nI (dg_wi (by omega) (by omega))) ?_
        have hw6 := wiM_6 sc (by omega)
        refine lv_istore (lv' := [(5, .int (nI (wiM sc))), (4, .int (nI sc)), (2, .int (iI ((bsM (fun s => gtM (waysM cl (ai 0) (sna 0) (spa 0) (hea 0) (fm 0)) (absd (spa 0) (hea 0)) s tm tk) sc).1))), (3, .int (iI (lsv (bsM (fun s => gtM (waysM cl (ai 0) (sna 0) (spa 0) (hea 0) (fm 0)) (absd (spa 0) (hea 0)) s tm tk) sc)))), (0, .ref rr), (1, .int (iI (-1)))]) hx hb dX7_lines_45 hl (by decide) rfl (fun ls hl => ?_)
        refine lv_iload_n hx hb dX7_lines_47 rfl (lv_at hl 2 rfl) ?_
        refine z_if_lt (tgt := 57) hx hb dX7_lines_48 (by decide) (by omega) (fun h14 => ?_) (fun h14 => ?_)
        · refine lv_aload_n hx hb dX7_lines_57 rfl (lv_at hl 4 rfl) ?_
          refine k_V (q := (RX7, TX7, 28)) (ci := 7) (As := []) (wr := []) ⟨hx, hb, hml, hown, hts⟩ (c_X7_isTalk l D cI cC rr ad len kp uo tm em pc0 fm pq dq kq ai sna spa hea lg' vg' cl hrc hok (by omega) (tlM li' sc tm tm) tk (fun j hj => by rw [tlM_at hj]; exact lineM_3 _ _ _) (by omega) (by omega) (by omega)) (cwV 0 hts gX7_lines_X7_isTalk rfl rfl rfl (by decide +kernel) ⟨Nat.le_of_ble_eq_true rfl, Nat.le_of_ble_eq_true rfl⟩) rfl hl.1 rfl (Nat.le_of_ble_eq_true rfl) dX7_lines_58 ⟨Nat.zero_le _, Nat.zero_le _⟩ hN hK hP hD hS hA rfl (q0 := 11) rfl [11, 0, 1, 2, 3, 4, 5, 6, 7, 8, 9, 12, 10] [] rfl rfl ⟨rfl, rfl, by decide⟩ (fun r15 u H locs w16 hP hD hS => ?_)
          obtain ⟨rfl, h17⟩ | ⟨rfl, h18⟩ : (r15 = (nI 1) ∧ itM (waysM cl (ai 0) (sna 0) (spa 0) (hea 0) (fm 0)) (absd (spa 0) (hea 0)) (tlM li' sc tm tm) tk tm = true) ∨ (r15 = (nI 0) ∧ itM (waysM cl (ai 0) (sna 0) (spa 0) (hea 0) (fm 0)) (absd (spa 0) (hea 0)) (tlM li' sc tm tm) tk tm = false) := w16
          · have hgt : gtM (waysM cl (ai 0) (sna 0) (spa 0) (hea 0) (fm 0)) (absd (spa 0) (hea 0)) sc tm tk = true := by rw [← it_gt (absd_le (by omega) (by omega)) (by omega), ← itM_cg (ln := tlM li' sc tm tm) (fun k hk => tlM_at hk)]; exact h17
            refine x_if_eq (tgt := 70) hx hb dX7_lines_61 (by decide) (by omega) (fun h19 => False.elim (by omega)) (fun h19 => ?_)
            refine lv_iload hx hb dX7_lines_64 (lv_at hl 1 rfl) ?_
            refine lv_istore_n (lv' := [(2, .int (nI sc)), (5, .int (nI (wiM sc))), (4, .int (nI sc)), (3, .int (iI (lsv (bsM (fun s => gtM (waysM cl (ai 0) (sna 0) (spa 0) (hea 0) (fm 0)) (absd (spa 0) (hea 0)) s tm tk) sc)))), (0, .ref rr), (1, .int (iI (-1)))]) hx hb dX7_lines_66 rfl hl (by decide) rfl (fun ls hl => ?_)
            refine lv_iload hx hb dX7_lines_67 (lv_at hl 1 rfl) ?_
            refine lv_istore_n (lv' := [(3, .int (nI (wiM sc))), (2, .int (nI sc)), (5, .int (nI (wiM sc))), (4, .int (nI sc)), (0, .ref rr), (1, .int (iI (-1)))]) hx hb dX7_lines_69 rfl hl (by decide) rfl (fun ls hl => ?_)
            refine lv_iinc (v := (nI (sc + 1))) (lv' := [(4, .int (nI (sc + 1))), (3, .int (nI (wiM sc))), (2, .int (nI sc)), (5, .int (nI (wiM sc))), (0, .ref rr), (1, .int (iI (-1)))]) hx hb dX7_lines_70 hl (k := 3) rfl (nI_inc _ 1) (by decide) rfl (fun ls hl => ?_)
            refine lv_goto (tgt := 26) hx hb dX7_lines_73 (by decide) ?_
            have hl : lv_has ls 6 [(4, .int (nI (sc + 1))), (2, .int (iI ((bsM (fun s => gtM (waysM cl (ai 0) (sna 0) (spa 0) (hea 0) (fm 0)) (absd (spa 0) (hea 0)) s tm tk) (sc + 1)).1))), (3, .int (iI (lsv (bsM (fun s => gtM (waysM cl (ai 0) (sna 0) (spa 0) (hea 0) (fm 0)) (absd (spa 0) (hea 0)) s tm tk) (sc + 1))))), (0, .ref rr), (1, .int (iI (-1)))] := by have h := hl; have e := rbs_t (ok := (fun s => gtM (waysM cl (ai 0) (sna 0) (spa 0) (hea 0) (fm 0)) (absd (spa 0) (hea 0)) s tm tk)) (s := sc) (by omega) hgt (by omega); rw [e, lsv_nat]; have h := lv_sub h [0, 2, 1, 4, 5] rfl; simp only [nI_iI] at h ⊢; exact h
            exact ih26 (sc + 1) ((tkM (waysM cl (ai 0) (sna 0) (spa 0) (hea 0) (fm 0)) (tlM li' sc tm tm) tm).1) ((tkM (waysM cl (ai 0) (sna 0) (spa 0) (hea 0) (fm 0)) (tlM li' sc tm tm) tm).2) (tlM li' sc tm tm) (by omega) (by omega) _ _ (hP.sub [0, 1, 2, 3, 4, 5, 6, 7, 8, 9, 10, 11, 12] rfl) (hD.sub [0, 1, 2, 3, 4, 5, 6, 7, 8, 9, 10, 11, 12] rfl rfl) hS _ (lv_sub hl [0, 1, 2, 3, 4] rfl)
          · have hgt : gtM (waysM cl (ai 0) (sna 0) (spa 0) (hea 0) (fm 0)) (absd (spa 0) (hea 0)) sc tm tk = false := by rw [← it_gt (absd_le (by omega) (by omega)) (by omega), ← itM_cg (ln := tlM li' sc tm tm) (fun k hk => tlM_at hk)]; exact h18
            refine x_if_eq (tgt := 70) hx hb dX7_lines_61 (by decide) (by omega) (fun h20 => ?_) (fun h20 => False.elim (by omega))
            refine lv_iinc (v := (nI (sc + 1))) (lv' := [(4, .int (nI (sc + 1))), (5, .int (nI (wiM sc))), (2, .int (iI ((bsM (fun s => gtM (waysM cl (ai 0) (sna 0) (spa 0) (hea 0) (fm 0)) (absd (spa 0) (hea 0)) s tm tk) sc).1))), (3, .int (iI (lsv (bsM (fun s => gtM (waysM cl (ai 0) (sna 0) (spa 0) (hea 0) (fm 0)) (absd (spa 0) (hea 0)) s tm tk) sc)))), (0, .ref rr), (1, .int (iI (-1)))]) hx hb dX7_lines_70 hl (k := 1) rfl (nI_inc _ 1) (by decide) rfl (fun ls hl => ?_)
            refine lv_goto (tgt := 26) hx hb dX7_lines_73 (by decide) ?_
            have hl : lv_has ls 6 [(4, .int (nI (sc + 1))), (2, .int (iI ((bsM (fun s => gtM (waysM cl (ai 0) (sna 0) (spa 0) (hea 0) (fm 0)) (absd (spa 0) (hea 0)) s tm tk) (sc + 1)).1))), (3, .int (iI (lsv (bsM (fun s => gtM (waysM cl (ai 0) (sna 0) (spa 0) (hea 0) (fm 0)) (absd (spa 0) (hea 0)) s tm tk) (sc + 1))))), (0, .ref rr), (1, .int (iI (-1)))] := by have h := hl; have e := rbs_f (ok := (fun s => gtM (waysM cl (ai 0) (sna 0) (spa 0) (hea 0) (fm 0)) (absd (spa 0) (hea 0)) s tm tk)) (s := sc) (Or.inr hgt); rw [e]; have h := lv_sub h [0, 2, 3, 4, 5] rfl; simp only [nI_iI] at h ⊢; exact h
            exact ih26 (sc + 1) ((tkM (waysM cl (ai 0) (sna 0) (spa 0) (hea 0) (fm 0)) (tlM li' sc tm tm) tm).1) ((tkM (waysM cl (ai 0) (sna 0) (spa 0) (hea 0) (fm 0)) (tlM li' sc tm tm) tm).2) (tlM li' sc tm tm) (by omega) (by omega) _ _ (hP.sub [0, 1, 2, 3, 4, 5, 6, 7, 8, 9, 10, 11, 12] rfl) (hD.sub [0, 1, 2, 3, 4, 5, 6, 7, 8, 9, 10, 11, 12] rfl rfl) hS _ (lv_sub hl [0, 1, 2, 3, 4] rfl)
        · refine lv_iload hx hb dX7_lines_51 (lv_at hl 0 rfl) ?_
          refine lv_iload_n hx hb dX7_lines_53 rfl (lv_at hl 3 rfl) ?_
          refine x_top2 (nI_iI _) ?_
          refine z_icmp_ge (tgt := 70) hx hb dX7_lines_54 (by decide) (by omega) (by omega) (fun h21 => ?_) (fun h21 => ?_)
          · refine lv_iinc (v := (nI (sc + 1))) (lv' := [(4, .int (nI (sc + 1))), (5, .int (nI (wiM sc))), (2, .int (iI ((bsM (fun s => gtM (waysM cl (ai 0) (sna 0) (spa 0) (hea 0) (fm 0)) (absd (spa 0) (hea 0)) s tm tk) sc).1))), (3, .int (iI (lsv (bsM (fun s => gtM (waysM cl (ai 0) (sna 0) (spa 0) (hea 0) (fm 0)) (absd (spa 0) (hea 0)) s tm tk) sc)))), (0, .ref rr), (1, .int (iI (-1)))]) hx hb dX7_lines_70 hl (k := 1) rfl (nI_inc _ 1) (by decide) rfl (fun ls hl => ?_)
            refine lv_goto (tgt := 26) hx hb dX7_lines_73 (by decide) ?_
            have hl : lv_has ls 6 [(4, .int (nI (sc + 1))), (2, .int (iI ((bsM (fun s => gtM (waysM cl (ai 0) (sna 0) (spa 0) (hea 0) (fm 0)) (absd (spa 0) (hea 0)) s tm tk) (sc + 1)).1))), (3, .int (iI (lsv (bsM (fun s => gtM (waysM cl (ai 0) (sna 0) (spa 0) (hea 0) (fm 0)) (absd (spa 0) (hea 0)) s tm tk) (sc + 1))))), (0, .ref rr), (1, .int (iI (-1)))] := by have h := hl; have e := rbs_f (ok := (fun s => gtM (waysM cl (ai 0) (sna 0) (spa 0) (hea 0) (fm 0)) (absd (spa 0) (hea 0)) s tm tk)) (s := sc) (Or.inl (by omega)); rw [e]; have h := lv_sub h [0, 2, 3, 4, 5] rfl; simp only [nI_iI] at h ⊢; exact h
            exact ih26 (sc + 1) lg' vg' (tlM li' sc tm tm) (by omega) (by omega) _ _ (hP.sub [11, 0, 1, 2, 3, 4, 5, 6, 7, 8, 9, 12, 10] rfl) (hD.sub [11, 0, 1, 2, 3, 4, 5, 6, 7, 8, 9, 12, 10] rfl rfl) hS _ (lv_sub hl [0, 1, 2, 3, 4] rfl)
          · refine lv_aload_n hx hb dX7_lines_57 rfl (lv_at hl 4 rfl) ?_
            refine k_V (q := (RX7, TX7, 28)) (ci := 7) (As := []) (wr := []) ⟨hx, hb, hml, hown, hts⟩ (c_X7_isTalk l D cI cC rr ad len kp uo tm em pc0 fm pq dq kq ai sna spa hea lg' vg' cl hrc hok (by omega) (tlM li' sc tm tm) tk (fun j hj => by rw [tlM_at hj]; exact lineM_3 _ _ _) (by omega) (by omega) (by omega)) (cwV 0 hts gX7_lines_X7_isTalk rfl rfl rfl (by decide +kernel) ⟨Nat.le_of_ble_eq_true rfl, Nat.le_of_ble_eq_true rfl⟩) rfl hl.1 rfl (Nat.le_of_ble_eq_true rfl) dX7_lines_58 ⟨Nat.zero_le _, Nat.zero_le _⟩ hN hK hP hD hS hA rfl (q0 := 11) rfl [11, 0, 1, 2, 3, 4, 5, 6, 7, 8, 9, 12, 10] [] rfl rfl ⟨rfl, rfl, by decide⟩ (fun r22 u H locs w23 hP hD hS => ?_)
            obtain ⟨rfl, h24⟩ | ⟨rfl, h25⟩ : (r22 = (nI 1) ∧ itM (waysM cl (ai 0) (sna 0) (spa 0) (hea 0) (fm 0)) (absd (spa 0) (hea 0)) (tlM li' sc tm tm) tk tm = true) ∨ (r22 = (nI 0) ∧ itM (waysM cl (ai 0) (sna 0) (spa 0) (hea 0) (fm 0)) (absd (spa 0) (hea 0)) (tlM li' sc tm tm) tk tm = false) := w23
            · have hgt : gtM (waysM cl (ai 0) (sna 0) (spa 0) (hea 0) (fm 0)) (absd (spa 0) (hea 0)) sc tm tk = true := by rw [← it_gt (absd_le (by omega) (by omega)) (by omega), ← itM_cg (ln := tlM li' sc tm tm) (fun k hk => tlM_at hk)]; exact h24
              refine x_if_eq (tgt := 70) hx hb dX7_lines_61 (by decide) (by omega) (fun h26 => False.elim (by omega)) (fun h26 => ?_)
              refine lv_iload hx hb dX7_lines_64 (lv_at hl 1 rfl) ?_
              refine lv_istore_n (lv' := [(2, .int (nI sc)), (5, .int (nI (wiM sc))), (4, .int (nI sc)), (3, .int (iI (lsv (bsM (fun s => gtM (waysM cl (ai 0) (sna 0) (spa 0) (hea 0) (fm 0)) (absd (spa 0) (hea 0)) s tm tk) sc)))), (0, .ref rr), (1, .int (iI (-1)))]) hx hb dX7_lines_66 rfl hl (by decide) rfl (fun ls hl => ?_)
              refine lv_iload hx hb dX7_lines_67 (lv_at hl 1 rfl) ?_
              refine lv_istore_n (lv' := [(3, .int (nI (wiM sc))), (2, .int (nI sc)), (5, .int (nI (wiM sc))), (4, .int (nI sc)), (0, .ref rr), (1, .int (iI (-1)))]) hx hb dX7_lines_69 rfl hl (by decide) rfl (fun ls hl => ?_)
              refine lv_iinc (v := (nI (sc + 1))) (lv' := [(4, .int (nI (sc + 1))), (3, .int (nI (wiM sc))), (2, .int (nI sc)), (5, .int (nI (wiM sc))), (0, .ref rr), (1, .int (iI (-1)))]) hx hb dX7_lines_70 hl (k := 3) rfl (nI_inc _ 1) (by decide) rfl (fun ls hl => ?_)
              refine lv_goto (tgt := 26) hx hb dX7_lines_73 (by decide) ?_
              have hl : lv_has ls 6 [(4, .int (nI (sc + 1))), (2, .int (iI ((bsM (fun s => gtM (waysM cl (ai 0) (sna 0) (spa 0) (hea 0) (fm 0)) (absd (spa 0) (hea 0)) s tm tk) (sc + 1)).1))), (3, .int (iI (lsv (bsM (fun s => gtM (waysM cl (ai 0) (sna 0) (spa 0) (hea 0) (fm 0)) (absd (spa 0) (hea 0)) s tm tk) (sc + 1))))), (0, .ref rr), (1, .int (iI (-1)))] := by have h := hl; have e := rbs_t (ok := (fun s => gtM (waysM cl (ai 0) (sna 0) (spa 0) (hea 0) (fm 0)) (absd (spa 0) (hea 0)) s tm tk)) (s := sc) (by omega) hgt (by omega); rw [e, lsv_nat]; have h := lv_sub h [0, 2, 1, 4, 5] rfl; simp only [nI_iI] at h ⊢; exact h
              exact ih26 (sc + 1) ((tkM (waysM cl (ai 0) (sna 0) (spa 0) (hea 0) (fm 0)) (tlM li' sc tm tm) tm).1) ((tkM (waysM cl (ai 0) (sna 0) (spa 0) (hea 0) (fm 0)) (tlM li' sc tm tm) tm).2) (tlM li' sc tm tm) (by omega) (by omega) _ _ (hP.sub [0, 1, 2, 3, 4, 5, 6, 7, 8, 9, 10, 11, 12] rfl) (hD.sub [0, 1, 2, 3, 4, 5, 6, 7, 8, 9, 10, 11, 12] rfl rfl) hS _ (lv_sub hl [0, 1, 2, 3, 4] rfl)
            · have hgt : gtM (waysM cl (ai 0) (sna 0) (spa 0) (hea 0) (fm 0)) (absd (spa 0) (hea 0)) sc tm tk = false := by rw [← it_gt (absd_le (by omega) (by omega)) (by omega), ← itM_cg (ln := tlM li' sc tm tm) (fun k hk => tlM_at hk)]; exact h25
              refine x_if_eq (tgt := 70) hx hb dX7_lines_61 (by decide) (by omega) (fun h27 => ?_) (fun h27 => False.elim (by omega))
              refine lv_iinc (v := (nI (sc + 1))) (lv' := [(4, .int (nI (sc + 1))), (5, .int (nI (wiM sc))), (2, .int (iI ((bsM (fun s => gtM (waysM cl (ai 0) (sna 0) (spa 0) (hea 0) (fm 0)) (absd (spa 0) (hea 0)) s tm tk) sc).1))), (3, .int (iI (lsv (bsM (fun s => gtM (waysM cl (ai 0) (sna 0) (spa 0) (hea 0) (fm 0)) (absd (spa 0) (hea 0)) s tm tk) sc)))), (0, .ref rr), (1, .int (iI (-1)))]) hx hb dX7_lines_70 hl (k := 1) rfl (nI_inc _ 1) (by decide) rfl (fun ls hl => ?_)
              refine lv_goto (tgt := 26) hx hb dX7_lines_73 (by decide) ?_
              have hl : lv_has ls 6 [(4, .int (nI (sc + 1))), (2, .int (iI ((bsM (fun s => gtM (waysM cl (ai 0) (sna 0) (spa 0) (hea 0) (fm 0)) (absd (spa 0) (hea 0)) s tm tk) (sc + 1)).1))), (3, .int (iI (lsv (bsM (fun s => gtM (waysM cl (ai 0) (sna 0) (spa 0) (hea 0) (fm 0)) (absd (spa 0) (hea 0)) s tm tk) (sc + 1))))), (0, .ref rr), (1, .int (iI (-1)))] := by have h := hl; have e := rbs_f (ok := (fun s => gtM (waysM cl (ai 0) (sna 0) (spa 0) (hea 0) (fm 0)) (absd (spa 0) (hea 0)) s tm tk)) (s := sc) (Or.inr hgt); rw [e]; have h := lv_sub h [0, 2, 3, 4, 5] rfl; simp only [nI_iI] at h ⊢; exact h
              exact ih26 (sc + 1) ((tkM (waysM cl (ai 0) (sna 0) (spa 0) (hea 0) (fm 0)) (tlM li' sc tm tm) tm).1) ((tkM (waysM cl (ai 0) (sna 0) (spa 0) (hea 0) (fm 0)) (tlM li' sc tm tm) tm).2) (tlM li' sc tm tm) (by omega) (by omega) _ _ (hP.sub [0, 1, 2, 3, 4, 5, 6, 7, 8, 9, 10, 11, 12] rfl) (hD.sub [0, 1, 2, 3, 4, 5, 6, 7, 8, 9, 10, 11, 12] rfl rfl) hS _ (lv_sub hl [0, 1, 2, 3, 4] rfl)
  exact loop26 _ 0 lg vg li (Nat.lt_succ_self _) (Nat.zero_le _) _ _ (hP.sub [0, 1, 2, 3, 4, 5, 6, 7, 8, 9, 10, 11, 12] rfl) (hD.sub [0, 1, 2, 3, 4, 5, 6, 7, 8, 9, 10, 11, 12] rfl rfl) hS _ (lv_sub hl [0, 2, 1, 3, 4] rfl)

set_option maxRecDepth 100000 in
set_option maxHeartbeats 4000000 in
theorem c_X7_lines_line (l : Launch) (D : va_G) (cI cC : ClassId) (rr : Nat) (ad : Nat → Nat) (len : Nat) (kp : Nat) (uo : Nat) (tm : Nat) (em : Nat) (pc0 : Nat) (fm : Nat → Nat) (pq : Nat → Nat) (dq : Nat → Nat) (kq : Nat → Nat) (ai : Nat → Nat) (sna : Nat → Nat) (spa : Nat → Nat) (hea : Nat → Nat) (lg : Nat → Nat) (vg : Nat → Nat) (cl : Nat → Nat) (hrc : relC pq dq kq cl (fm 0)) (hok : okC cl (fm 0)) (hfm : fm 0 ≤ 4 ∧ ai 0 ≤ 99 ∧ sna 0 < 2147483648) (li : Nat → Nat) (tk : Nat → Nat) (htk : ∀ j, j < tm → tk j ≤ 3) (htm6 : 1 ≤ tm ∧ tm ≤ 6) (hsp : spa 0 ≤ 40 ∧ hea 0 ≤ 40) (i : Nat) (hi : i < tm) (sd : Nat) (hsd : sd < 2 ^ (2 * tm)) (hbs : (bsM (fun s => gtM (waysM cl (ai 0) (sna 0) (spa 0) (hea 0) (fm 0)) (absd (spa 0) (hea 0)) s tm tk) (2 ^ (2 * tm))).1 = (sd : Int)) : mtI l D cI cC yX7_lines wsX7_lines ({ frames := 4, cells := 0, slots := 0, locals := 96 }) [.ref rr, .int (nI i)] [(rr, eMod ad len kp uo tm em pc0), (ad 2, eArr cI 2 fm), (ad 3, eArr cI 8 pq), (ad 4, eArr cI 8 dq), (ad 5, eArr cI 8 kq), (ad 6, eArr cI 2 ai), (ad 13, eArr cI 4 sna), (ad 11, eArr cI 4 spa), (ad 12, eArr cI 4 hea), (ad 20, eArr cI 150 lg), (ad 21, eArr cI 150 vg), (ad 22, eArr cI 6 li), (ad 15, eArr cI 6 tk)] (fun (r : Int32) ((lg', vg', li') : (Nat → Nat) × (Nat → Nat) × (Nat → Nat)) => r = (nI (lineM sd tm i))) (fun ((lg', vg', li') : (Nat → Nat) × (Nat → Nat) × (Nat → Nat)) => [(rr, eMod ad len kp uo tm em pc0), (ad 2, eArr cI 2 fm), (ad 3, eArr cI 8 pq), (ad 4, eArr cI 8 dq), (ad 5, eArr cI 8 kq), (ad 6, eArr cI 2 ai), (ad 13, eArr cI 4 sna), (ad 11, eArr cI 4 spa), (ad 12, eArr cI 4 hea), (ad 20, eArr cI 150 lg'), (ad 21, eArr cI 150 vg'), (ad 22, eArr cI 6 li'), (ad 15, eArr cI 6 tk)]) := by
  refine mtI_of (cc := cX7_lines) (maxL := 6) (ret := (some .int)) (by decide) rfl rfl ?_
  intro p e s m below meth c A hx hb hml hr hts hown hlocks hN hA hK hP hD hS ls hl
  have hown : s.vm.findClass RX7 = some m.cls := hown
  have hl : lv_has ls 6 [(0, .ref rr), (1, .int (nI i))] := hl
  obtain ⟨H, hHe⟩ : ∃ H, H = s.heap := ⟨_, rfl⟩
  rw [← hHe] at hP ⊢
  have hS : va_S A s.heap H [] := by rw [hHe]; exact va_S.rf
  have fl148 := hts (.fieldLink RX7 148 "EchoPaysRentModel" "talkMany" "I") (by decide +kernel)
  have inX7 : ∀ w ∈ wsX70, w ∈ wsX7_lines := by decide +kernel
  have fl73 := hts (.fieldLink RX7 73 "EchoPaysRentModel" "lines" "[I") (by decide +kernel)
  have f1 : 2 ^ (2 * tm) ≤ 4096 := pow12 (by omega)
  refine lv_iload_n hx hb dX7_lines_0 rfl (lv_at hl 1 rfl) ?_
  refine lv_iconst (v := (iI (-1))) hx hb dX7_lines_1 (by decide) ?_
  refine x_top2 (nI_iI _) ?_
  refine z_icmp_ge (tgt := 7) hx hb dX7_lines_2 (by decide) (by omega) (by omega) (fun h2 => ?_) (fun h2 => False.elim (by omega))
  refine lv_aload_n hx hb dX7_lines_7 rfl (lv_at hl 0 rfl) ?_
  refine va_get (D := D) (ci := 7) (v := .int (nI tm)) (C := RX7) (T := TX7) (N := 28) hx hb hts inX7 hown hK hP 0 rfl rfl 17 (by decide) fl148 (fun _ h9 => h9) rfl dX7_lines_8 ?_
  refine x_if_ne (tgt := 17) hx hb dX7_lines_11 (by decide) (by omega) (fun h3 => ?_) (fun h3 => False.elim (by omega))
  refine lv_bipush (v := (iI (-4))) hx hb dX7_lines_17 (by decide) ?_
  refine lv_istore_n (lv' := [(2, .int (iI (-4))), (0, .ref rr), (1, .int (nI i))]) hx hb dX7_lines_19 rfl hl (by decide) rfl (fun ls hl => ?_)
  refine lv_bipush (v := (iI (-4))) hx hb dX7_lines_20 (by decide) ?_
  refine lv_istore_n (lv' := [(3, .int (iI (-4))), (2, .int (iI (-4))), (0, .ref rr), (1, .int (nI i))]) hx hb dX7_lines_22 rfl hl (by decide) rfl (fun ls hl => ?_)
  refine lv_iconst (v := (nI 0)) hx hb dX7_lines_23 (by decide) ?_
  refine lv_istore (lv' := [(4, .int (nI 0)), (3, .int (iI (-4))), (2, .int (iI (-4))), (0, .ref rr), (1, .int (nI i))]) hx hb dX7_lines_24 hl (by decide) rfl (fun ls hl => ?_)
  have loop26 : ∀ (nn26 : Nat) (sc : Nat) (lg' : Nat → Nat) (vg' : Nat → Nat) (li' : Nat → Nat), 2 ^ (2 * tm) - sc < nn26 → (sc ≤ 2 ^ (2 * tm)) → ∀ (H : Heap) (locs : List Loc), va_P D vwCl [(rr, eMod ad len kp uo tm em pc0), (ad 2, eArr cI 2 fm), (ad 3, eArr cI 8 pq), (ad 4, eArr cI 8 dq), (ad 5, eArr cI 8 kq), (ad 6, eArr cI 2 ai), (ad 13, eArr cI 4 sna), (ad 11, eArr cI 4 spa), (ad 12, eArr cI 4 hea), (ad 20, eArr cI 150 lg'), (ad 21, eArr cI 150 vg'), (ad 22, eArr cI 6 li'), (ad 15, eArr cI 6 tk)] H → va_D A [(rr, eMod ad len kp uo tm em pc0), (ad 2, eArr cI 2 fm), (ad 3, eArr cI 8 pq), (ad 4, eArr cI 8 dq), (ad 5, eArr cI 8 kq), (ad 6, eArr cI 2 ai), (ad 13, eArr cI 4 sna), (ad 11, eArr cI 4 spa), (ad 12, eArr cI 4 hea), (ad 20, eArr cI 150 lg'), (ad 21, eArr cI 150 vg'), (ad 22, eArr cI 6 li'), (ad 15, eArr cI 6 tk)] → va_S A s.heap H locs → ∀ ls : Array Slot, lv_has ls 6 [(4, .int (nI sc)), (2, .int (iI ((bsM (fun s => gtM (waysM cl (ai 0) (sna 0) (spa 0) (hea 0) (fm 0)) (absd (spa 0) (hea 0)) s tm tk) sc).1))), (3, .int (iI (lsv (bsM (fun s => gtM (waysM cl (ai 0) (sna 0) (spa 0) (hea 0) (fm 0)) (absd (spa 0) (hea 0)) s tm tk) sc)))), (0, .ref rr), (1, .int (nI i))] → W p l e (headSpec wsX7_lines ({ frames := 4, cells := 0, slots := 0, locals := 96 })).room s m ([.ref rr, .int (nI i)] : List Value).toArray below meth c H locs 0 0 (MQ below (va_Qi (fun (r : Int32) ((lg', vg', li') : (Nat → Nat) × (Nat → Nat) × (Nat → Nat)) => r = (nI (lineM sd tm i))) (ctB D cI cC (fun ((lg', vg', li') : (Nat → Nat) × (Nat → Nat) × (Nat → Nat)) => [(rr, eMod ad len kp uo tm em pc0), (ad 2, eArr cI 2 fm), (ad 3, eArr cI 8 pq), (ad 4, eArr cI 8 dq), (ad 5, eArr cI 8 kq), (ad 6, eArr cI 2 ai), (ad 13, eArr cI 4 sna), (ad 11, eArr cI 4 spa), (ad 12, eArr cI 4 hea), (ad 20, eArr cI 150 lg'), (ad 21, eArr cI 150 vg'), (ad 22, eArr cI 6 li'), (ad 15, eArr cI 6 tk)]) A) A) ([.ref rr, .int (nI i)] : List Value).toArray s 0 0 A) (F0 m 26 ls []) := by
    intro nn26
    induction nn26 with
    | zero =>
      intro sc lg' vg' li' hm4
      exact absurd hm4 (Nat.not_lt_zero _)
    | succ nn26 ih26 =>
      intro sc lg' vg' li' hm4 hi5 H locs hP hD hS ls hl
      refine lv_iload hx hb dX7_lines_26 (lv_at hl 0 rfl) ?_
      refine lv_iconst (v := (nI 1)) hx hb dX7_lines_28 (by decide) ?_
      refine lv_iconst (v := (nI 2)) hx hb dX7_lines_29 (by decide) ?_
      refine lv_aload_n hx hb dX7_lines_30 rfl (lv_at hl 3 rfl) ?_
      refine va_get (D := D) (ci := 7) (v := .int (nI tm)) (C := RX7) (T := TX7) (N := 28) hx hb hts inX7 hown hK hP 0 rfl rfl 17 (by decide) fl148 (fun _ h9 => h9) rfl dX7_lines_31 ?_
      refine x_imul hx hb dX7_lines_34 ?_
      refine x_shl1 hx hb dX7_lines_35 (by omega) ?_
      refine x_icmp_ge (tgt := 76) hx hb dX7_lines_36 (by decide) (by omega) (by omega) (fun h6 => ?_) (fun h6 => ?_)
      · obtain rfl : sc = 2 ^ (2 * tm) := by omega
        rw [show (iI ((bsM (fun s => gtM (waysM cl (ai 0) (sna 0) (spa 0) (hea 0) (fm 0)) (absd (spa 0) (hea 0)) s tm tk) (2 ^ (2 * tm))).1)) = (nI sd) from by rw [hbs, nI_iI]] at hl
        rw [show (iI (lsv (bsM (fun s => gtM (waysM cl (ai 0) (sna 0) (spa 0) (hea 0) (fm 0)) (absd (spa 0) (hea 0)) s tm tk) (2 ^ (2 * tm))))) = (nI (wiM sd)) from by rw [nI_iI]; unfold lsv; rw [if_neg (by rw [hbs]; omega), bsM_val _ hbs]] at hl
        refine lv_iload_n hx hb dX7_lines_76 rfl (lv_at hl 1 rfl) ?_
        refine x_if_lt (tgt := 88) hx hb dX7_lines_77 (by decide) (by omega) (fun h7 => False.elim (by omega)) (fun h7 => ?_)
        refine lv_iload_n hx hb dX7_lines_80 rfl (lv_at hl 4 rfl) ?_
        refine lv_aload_n hx hb dX7_lines_81 rfl (lv_at hl 3 rfl) ?_
        refine va_get (D := D) (ci := 7) (v := .int (nI tm)) (C := RX7) (T := TX7) (N := 28) hx hb hts inX7 hown hK hP 0 rfl rfl 17 (by decide) fl148 (fun _ h9 => h9) rfl dX7_lines_82 ?_
        refine x_icmp_lt (tgt := 91) hx hb dX7_lines_85 (by decide) (by omega) (by omega) (fun h8 => ?_) (fun h8 => False.elim (by omega))
        refine lv_aload_n hx hb dX7_lines_91 rfl (lv_at hl 3 rfl) ?_
        refine lv_iload_n hx hb dX7_lines_92 rfl (lv_at hl 1 rfl) ?_
        refine k_V (q := (RX7, TX7, 28)) (ci := 7) (As := [.int (nI sd)]) (wr := [(ad 2, eArr cI 2 fm), (ad 3, eArr cI 8 pq), (ad 4, eArr cI 8 dq), (ad 5, eArr cI 8 kq), (ad 6, eArr cI 2 ai), (ad 13, eArr cI 4 sna), (ad 11, eArr cI 4 spa), (ad 12, eArr cI 4 hea), (ad 20, eArr cI 150 lg'), (ad 21, eArr cI 150 vg'), (ad 15, eArr cI 6 tk)]) ⟨hx, hb, hml, hown, hts⟩ (c_X7_takeLines l D cI cC rr ad len kp uo tm em pc0 li' sd (by omega) (by omega)) (cwV 1 hts gX7_lines_X7_takeLines rfl rfl rfl (by decide +kernel) ⟨Nat.le_of_ble_eq_true rfl, Nat.le_of_ble_eq_true rfl⟩) rfl hl.1 rfl (Nat.le_of_ble_eq_true rfl) dX7_lines_93 ⟨Nat.zero_le _, Nat.zero_le _⟩ hN hK hP hD hS hA rfl (q0 := 0) rfl [0, 11] [1, 2, 3, 4, 5, 6, 7, 8, 9, 10, 12] rfl rfl ⟨rfl, rfl, by decide⟩ (fun r9 u H locs w10 hP hD hS => ?_)
        obtain rfl : r9 = (nI (dgM sd tm)) := w10
        refine lv_pop hx hb dX7_lines_96 rfl ?_
        refine lv_iload_n hx hb dX7_lines_97 rfl (lv_at hl 4 rfl) ?_
        refine x_if_ge (tgt := 105) hx hb dX7_lines_98 (by decide) (by omega) (fun h11 => ?_) (fun h11 => False.elim (by omega))
        refine lv_aload_n hx hb dX7_lines_105 rfl (lv_at hl 3 rfl) ?_
        refine va_get (D := D) (ci := 7) (v := .ref (ad 22)) (C := RX7) (T := TX7) (N := 28) hx hb hts inX7 hown hK hP 11 rfl rfl 27 (by decide) fl73 (fun _ h9 => h9) rfl dX7_lines_106 ?_
        refine lv_iload_n hx hb dX7_lines_109 rfl (lv_at hl 4 rfl) ?_
        refine x_iald (A := A) hx hb hK hP 12 0 rfl rfl dX7_lines_110 (by omega) (by omega) ?_
        exact x_iret hx hb hr hlocks dX7_lines_111 rfl (post := fun (r : Int32) ((lg', vg', li') : (Nat → Nat) × (Nat → Nat) × (Nat → Nat)) => r = (nI (lineM sd tm i))) (w1 := fun ((lg', vg', li') : (Nat → Nat) × (Nat → Nat) × (Nat → Nat)) => [(rr, eMod ad len kp uo tm em pc0), (ad 2, eArr cI 2 fm), (ad 3, eArr cI 8 pq), (ad 4, eArr cI 8 dq), (ad 5, eArr cI 8 kq), (ad 6, eArr cI 2 ai), (ad 13, eArr cI 4 sna), (ad 11, eArr cI 4 spa), (ad 12, eArr cI 4 hea), (ad 20, eArr cI 150 lg'), (ad 21, eArr cI 150 vg'), (ad 22, eArr cI 6 li'), (ad 15, eArr cI 6 tk)]) (lg', vg', tlM li' sd tm tm) (congrArg nI (tlM_at (by omega))) hK (hP.sub [11, 0, 1, 2, 3, 4, 5, 6, 7, 8, 9, 12, 10] rfl) (hD.sub [11, 0, 1, 2, 3, 4, 5, 6, 7, 8, 9, 12, 10] rfl rfl) hS
      · have hbd := bsM_bd (fun s => gtM (waysM cl (ai 0) (sna 0) (spa 0) (hea 0) (fm 0)) (absd (spa 0) (hea 0)) s tm tk) sc
        have hlv := lsv_bd (fun s => gtM (waysM cl (ai 0) (sna 0) (spa 0) (hea 0) (fm 0)) (absd (spa 0) (hea 0)) s tm tk) sc
        refine lv_aload_n hx hb dX7_lines_39 rfl (lv_at hl 3 rfl) ?_
        refine lv_iload hx hb dX7_lines_40 (lv_at hl 0 rfl) ?_
        refine k_V (q := (RX7, TX7, 28)) (ci := 7) (As := [.int (nI sc)]) (wr := [(ad 2, eArr cI 2 fm), (ad 3, eArr cI 8 pq), (ad 4, eArr cI 8 dq), (ad 5, eArr cI 8 kq), (ad 6, eArr cI 2 ai), (ad 13, eArr cI 4 sna), (ad 11, eArr cI 4 spa), (ad 12, eArr cI 4 hea), (ad 20, eArr cI 150 lg'), (ad 21, eArr cI 150 vg'), (ad 15, eArr cI 6 tk)]) ⟨hx, hb, hml, hown, hts⟩ (c_X7_takeLines l D cI cC rr ad len kp uo tm em pc0 li' sc (by omega) (by omega)) (cwV 1 hts gX7_lines_X7_takeLines rfl rfl rfl (by decide +kernel) ⟨Nat.le_of_ble_eq_true rfl, Nat.le_of_ble_eq_true rfl⟩) rfl hl.1 rfl (Nat.le_of_ble_eq_true rfl) dX7_lines_42 ⟨Nat.zero_le _, Nat.zero_le _⟩ hN hK hP hD hS hA rfl (q0 := 0) rfl [0, 11] [1, 2, 3, 4, 5, 6, 7, 8, 9, 10, 12] rfl rfl ⟨rfl, rfl, by decide⟩ (fun r12 u H locs w13 hP hD hS => ?_)
        obtain rfl : r12 = (nI (dgM sc tm)) := w13
        refine x_top (show nI (dgM sc tm) = nI (wiM sc) from congrArg nI (dg_wi (by omega) (by omega))) ?_
        have hw6 := wiM_6 sc (by omega)
        refine lv_istore (lv' := [(5, .int (nI (wiM sc))), (4, .int (nI sc)), (2, .int (iI ((bsM (fun s => gtM (waysM cl (ai 0) (sna 0) (spa 0) (hea 0) (fm 0)) (absd (spa 0) (hea 0)) s tm tk) sc).1))), (3, .int (iI (lsv (bsM (fun s => gtM (waysM cl (ai 0) (sna 0) (spa 0) (hea 0) (fm 0)) (absd (spa 0) (hea 0)) s tm tk) sc)))), (0, .ref rr), (1, .int (nI i))]) hx hb dX7_lines_45 hl (by decide) rfl (fun ls hl => ?_)
        refine lv_iload_n hx hb dX7_lines_47 rfl (lv_at hl 2 rfl) ?_
        refine z_if_lt (tgt := 57) hx hb dX7_lines_48 (by decide) (by omega) (fun h14 => ?_) (fun h14 => ?_)
        · refine lv_aload_n hx hb dX7_lines_57 rfl (lv_at hl 4 rfl) ?_
          refine k_V (q := (RX7, TX7, 28)) (ci := 7) (As := []) (wr := []) ⟨hx, hb, hml, hown, hts⟩ (c_X7_isTalk l D cI cC rr ad len kp uo tm em pc0 fm pq dq kq ai sna spa hea lg' vg' cl hrc hok (by omega) (tlM li' sc tm tm) tk (fun j hj => by rw [tlM_at hj]; exact lineM_3 _ _ _) (by omega) (by omega) (by omega)) (cwV 0 hts gX7_lines_X7_isTalk rfl rfl rfl (by decide +kernel) ⟨Nat.le_of_ble_eq_true rfl, Nat.le_of_ble_eq_true rfl⟩) rfl hl.1 rfl (Nat.le_of_ble_eq_true rfl) dX7_lines_58 ⟨Nat.zero_le _, Nat.zero_le _⟩ hN hK hP hD hS hA rfl (q0 := 11) rfl [11, 0, 1, 2, 3, 4, 5, 6, 7, 8, 9, 12, 10] [] rfl rfl ⟨rfl, rfl, by decide⟩ (fun r15 u H locs w16 hP hD hS => ?_)
          obtain ⟨rfl, h17⟩ | ⟨rfl, h18⟩ : (r15 = (nI 1) ∧ itM (waysM cl (ai 0) (sna 0) (spa 0) (hea 0) (fm 0)) (absd (spa 0) (hea 0)) (tlM li' sc tm tm) tk tm = true) ∨ (r15 = (nI 0) ∧ itM (waysM cl (ai 0) (sna 0) (spa 0) (hea 0) (fm 0)) (absd (spa 0) (hea 0)) (tlM li' sc tm tm) tk tm = false) := w16
          · have hgt : gtM (waysM cl (ai 0) (sna 0) (spa 0) (hea 0) (fm 0)) (absd (spa 0) (hea 0)) sc tm tk = true := by rw [← it_gt (absd_le (by omega) (by omega)) (by omega), ← itM_cg (ln := tlM li' sc tm tm) (fun k hk => tlM_at hk)]; exact h17
            refine x_if_eq (tgt := 70) hx hb dX7_lines_61 (by decide) (by omega) (fun h19 => False.elim (by omega)) (fun h19 => ?_)
            refine lv_iload hx hb dX7_lines_64 (lv_at hl 1 rfl) ?_
            refine lv_istore_n (lv' := [(2, .int (nI sc)), (5, .int (nI (wiM sc))), (4, .int (nI sc)), (3, .int (iI (lsv (bsM (fun s => gtM (waysM cl (ai 0) (sna 0) (spa 0) (hea 0) (fm 0)) (absd (spa 0) (hea 0)) s tm tk) sc)))), (0, .ref rr), (1, .int (nI i))]) hx hb dX7_lines_66 rfl hl (by decide) rfl (fun ls hl => ?_)
            refine lv_iload hx hb dX7_lines_67 (lv_at hl 1 rfl) ?_
            refine lv_istore_n (lv' := [(3, .int (nI (wiM sc))), (2, .int (nI sc)), (5, .int (nI (wiM sc))), (4, .int (nI sc)), (0, .ref rr), (1, .int (nI i))]) hx hb dX7_lines_69 rfl hl (by decide) rfl (fun ls hl => ?_)
            refine lv_iinc (v := (nI (sc + 1))) (lv' := [(4, .int (nI (sc + 1))), (3, .int (nI (wiM sc))), (2, .int (nI sc)), (5, .int (nI (wiM sc))), (0, .ref rr), (1, .int (nI i))]) hx hb dX7_lines_70 hl (k := 3) rfl (nI_inc _ 1) (by decide) rfl (fun ls hl => ?_)
            refine lv_goto (tgt := 26) hx hb dX7_lines_73 (by decide) ?_
            have hl : lv_has ls 6 [(4, .int (nI (sc + 1))), (2, .int (iI ((bsM (fun s => gtM (waysM cl (ai 0) (sna 0) (spa 0) (hea 0) (fm 0)) (absd (spa 0) (hea 0)) s tm tk) (sc + 1)).1))), (3, .int (iI (lsv (bsM (fun s => gtM (waysM cl (ai 0) (sna 0) (spa 0) (hea 0) (fm 0)) (absd (spa 0) (hea 0)) s tm tk) (sc + 1))))), (0, .ref rr), (1, .int (nI i))] := by have h := hl; have e := rbs_t (ok := (fun s => gtM (waysM cl (ai 0) (sna 0) (spa 0) (hea 0) (fm 0)) (absd (spa 0) (hea 0)) s tm tk)) (s := sc) (by omega) hgt (by omega); rw [e, lsv_nat]; have h := lv_sub h [0, 2, 1, 4, 5] rfl; simp only [nI_iI] at h ⊢; exact h
            exact ih26 (sc + 1) ((tkM (waysM cl (ai 0) (sna 0) (spa 0) (hea 0) (fm 0)) (tlM li' sc tm tm) tm).1) ((tkM (waysM cl (ai 0) (sna 0) (spa 0) (hea 0) (fm 0)) (tlM li' sc tm tm) tm).2) (tlM li' sc tm tm) (by omega) (by omega) _ _ (hP.sub [0, 1, 2, 3, 4, 5, 6, 7, 8, 9, 10, 11, 12] rfl) (hD.sub [0, 1, 2, 3, 4, 5, 6, 7, 8, 9, 10, 11, 12] rfl rfl) hS _ (lv_sub hl [0, 1, 2, 3, 4] rfl)
          · have hgt : gtM (waysM cl (ai 0) (sna 0) (spa 0) (hea 0) (fm 0)) (absd (spa 0) (hea 0)) sc tm tk = false := by rw [← it_gt (absd_le (by omega) (by omega)) (by omega), ← itM_cg (ln := tlM li' sc tm tm) (fun k hk => tlM_at hk)]; exact h18
            refine x_if_eq (tgt := 70) hx hb dX7_lines_61 (by decide) (by omega) (fun h20 => ?_) (fun h20 => False.elim (by omega))
            refine lv_iinc (v := (nI (sc + 1))) (lv' := [(4, .int (nI (sc + 1))), (5, .int (nI (wiM sc))), (2, .int (iI ((bsM (fun s => gtM (waysM cl (ai 0) (sna 0) (spa 0) (hea 0) (fm 0)) (absd (spa 0) (hea 0)) s tm tk) sc).1))), (3, .int (iI (lsv (bsM (fun s => gtM (waysM cl (ai 0) (sna 0) (spa 0) (hea 0) (fm 0)) (absd (spa 0) (hea 0)) s tm tk) sc)))), (0, .ref rr), (1, .int (nI i))]) hx hb dX7_lines_70 hl (k := 1) rfl (nI_inc _ 1) (by decide) rfl (fun ls hl => ?_)
            refine lv_goto (tgt := 26) hx hb dX7_lines_73 (by decide) ?_
            have hl : lv_has ls 6 [(4, .int (nI (sc + 1))), (2, .int (iI ((bsM (fun s => gtM (waysM cl (ai 0) (sna 0) (spa 0) (hea 0) (fm 0)) (absd (spa 0) (hea 0)) s tm tk) (sc + 1)).1))), (3, .int (iI (lsv (bsM (fun s => gtM (waysM cl (ai 0) (sna 0) (spa 0) (hea 0) (fm 0)) (absd (spa 0) (hea 0)) s tm tk) (sc + 1))))), (0, .ref rr), (1, .int (nI i))] := by have h := hl; have e := rbs_f (ok := (fun s => gtM (waysM cl (ai 0) (sna 0) (spa 0) (hea 0) (fm 0)) (absd (spa 0) (hea 0)) s tm tk)) (s := sc) (Or.inr hgt); rw [e]; have h := lv_sub h [0, 2, 3, 4, 5] rfl; simp only [nI_iI] at h ⊢; exact h
            exact ih26 (sc + 1) ((tkM (waysM cl (ai 0) (sna 0) (spa 0) (hea 0) (fm 0)) (tlM li' sc tm tm) tm).1) ((tkM (waysM cl (ai 0) (sna 0) (spa 0) (hea 0) (fm 0)) (tlM li' sc tm tm) tm).2) (tlM li' sc tm tm) (by omega) (by omega) _ _ (hP.sub [0, 1, 2, 3, 4, 5, 6, 7, 8, 9, 10, 11, 12] rfl) (hD.sub [0, 1, 2, 3, 4, 5, 6, 7, 8, 9, 10, 11, 12] rfl rfl) hS _ (lv_sub hl [0, 1, 2, 3, 4] rfl)
        · refine lv_iload hx hb dX7_lines_51 (lv_at hl 0 rfl) ?_
          refine lv_iload_n hx hb dX7_lines_53 rfl (lv_at hl 3 rfl) ?_
          refine x_top2 (nI_iI _) ?_
          refine z_icmp_ge (tgt := 70) hx hb dX7_lines_54 (by decide) (by omega) (by omega) (fun h21 => ?_) (fun h21 => ?_)
          · refine lv_iinc (v := (nI (sc + 1))) (lv' := [(4, .int (nI (sc + 1))), (5, .int (nI (wiM sc))), (2, .int (iI ((bsM (fun s => gtM (waysM cl (ai 0) (sna 0) (spa 0) (hea 0) (fm 0)) (absd (spa 0) (hea 0)) s tm tk) sc).1))), (3, .int (iI (lsv (bsM (fun s => gtM (waysM cl (ai 0) (sna 0) (spa 0) (hea 0) (fm 0)) (absd (spa 0) (hea 0)) s tm tk) sc)))), (0, .ref rr), (1, .int (nI i))]) hx hb dX7_lines_70 hl (k := 1) rfl (nI_inc _ 1) (by decide) rfl (fun ls hl => ?_)
            refine lv_goto (tgt := 26) hx hb dX7_lines_73 (by decide) ?_
            have hl : lv_has ls 6 [(4, .int (nI (sc + 1))), (2, .int (iI ((bsM (fun s => gtM (waysM cl (ai 0) (sna 0) (spa 0) (hea 0) (fm 0)) (absd (spa 0) (hea 0)) s tm tk) (sc + 1)).1))), (3, .int (iI (lsv (bsM (fun s => gtM (waysM cl (ai 0) (sna 0) (spa 0) (hea 0) (fm 0)) (absd (spa 0) (hea 0)) s tm tk) (sc + 1))))), (0, .ref rr), (1, .int (nI i))] := by have h := hl; have e := rbs_f (ok := (fun s => gtM (waysM cl (ai 0) (sna 0) (spa 0) (hea 0) (fm 0)) (absd (spa 0) (hea 0)) s tm tk)) (s := sc) (Or.inl (by omega)); rw [e]; have h := lv_sub h [0, 2, 3, 4, 5] rfl; simp only [nI_iI] at h ⊢; exact h
            exact ih26 (sc + 1) lg' vg' (tlM li' sc tm tm) (by omega) (by omega) _ _ (hP.sub [11, 0, 1, 2, 3, 4, 5, 6, 7, 8, 9, 12, 10] rfl) (hD.sub [11, 0, 1, 2, 3, 4, 5, 6, 7, 8, 9, 12, 10] rfl rfl) hS _ (lv_sub hl [0, 1, 2, 3, 4] rfl)
          · refine lv_aload_n hx hb dX7_lines_57 rfl (lv_at hl 4 rfl) ?_
            refine k_V (q := (RX7, TX7, 28)) (ci := 7) (As := []) (wr := []) ⟨hx, hb, hml, hown, hts⟩ (c_X7_isTalk l D cI cC rr ad len kp uo tm em pc0 fm pq dq kq ai sna spa hea lg' vg' cl hrc hok (by omega) (tlM li' sc tm tm) tk (fun j hj => by rw [tlM_at hj]; exact lineM_3 _ _ _) (by omega) (by omega) (by omega)) (cwV 0 hts gX7_lines_X7_isTalk rfl rfl rfl (by decide +kernel) ⟨Nat.le_of_ble_eq_true rfl, Nat.le_of_ble_eq_true rfl⟩) rfl hl.1 rfl (Nat.le_of_ble_eq_true rfl) dX7_lines_58 ⟨Nat.zero_le _, Nat.zero_le _⟩ hN hK hP hD hS hA rfl (q0 := 11) rfl [11, 0, 1, 2, 3, 4, 5, 6, 7, 8, 9, 12, 10] [] rfl rfl ⟨rfl, rfl, by decide⟩ (fun r22 u H locs w23 hP hD hS => ?_)
            obtain ⟨rfl, h24⟩ | ⟨rfl, h25⟩ : (r22 = (nI 1) ∧ itM (waysM cl (ai 0) (sna 0) (spa 0) (hea 0) (fm 0)) (absd (spa 0) (hea 0)) (tlM li' sc tm tm) tk tm = true) ∨ (r22 = (nI 0) ∧ itM (waysM cl (ai 0) (sna 0) (spa 0) (hea 0) (fm 0)) (absd (spa 0) (hea 0)) (tlM li' sc tm tm) tk tm = false) := w23
            · have hgt : gtM (waysM cl (ai 0) (sna 0) (spa 0) (hea 0) (fm 0)) (absd (spa 0) (hea 0)) sc tm tk = true := by rw [← it_gt (absd_le (by omega) (by omega)) (by omega), ← itM_cg (ln := tlM li' sc tm tm) (fun k hk => tlM_at hk)]; exact h24
              refine x_if_eq (tgt := 70) hx hb dX7_lines_61 (by decide) (by omega) (fun h26 => False.elim (by omega)) (fun h26 => ?_)
              refine lv_iload hx hb dX7_lines_64 (lv_at hl 1 rfl) ?_
              refine lv_istore_n (lv' := [(2, .int (nI sc)), (5, .int (nI (wiM sc))), (4, .int (nI sc)), (3, .int (iI (lsv (bsM (fun s => gtM (waysM cl (ai 0) (sna 0) (spa 0) (hea 0) (fm 0)) (absd (spa 0) (hea 0)) s tm tk) sc)))), (0, .ref rr), (1, .int (nI i))]) hx hb dX7_lines_66 rfl hl (by decide) rfl (fun ls hl => ?_)
              refine lv_iload hx hb dX7_lines_67 (lv_at hl 1 rfl) ?_
              refine lv_istore_n (lv' := [(3, .int (nI (wiM sc))), (2, .int (nI sc)), (5, .int (nI (wiM sc))), (4, .int (nI sc)), (0, .ref rr), (1, .int (nI i))]) hx hb dX7_lines_69 rfl hl (by decide) rfl (fun ls hl => ?_)
              refine lv_iinc (v := (nI (sc + 1))) (lv' := [(4, .int (nI (sc + 1))), (3, .int (nI (wiM sc))), (2, .int (nI sc)), (5, .int (nI (wiM sc))), (0, .ref rr), (1, .int (nI i))]) hx hb dX7_lines_70 hl (k := 3) rfl (nI_inc _ 1) (by decide) rfl (fun ls hl => ?_)
              refine lv_goto (tgt := 26) hx hb dX7_lines_73 (by decide) ?_
              have hl : lv_has ls 6 [(4, .int (nI (sc + 1))), (2, .int (iI ((bsM (fun s => gtM (waysM cl (ai 0) (sna 0) (spa 0) (hea 0) (fm 0)) (absd (spa 0) (hea 0)) s tm tk) (sc + 1)).1))), (3, .int (iI (lsv (bsM (fun s => gtM (waysM cl (ai 0) (sna 0) (spa 0) (hea 0) (fm 0)) (absd (spa 0) (hea 0)) s tm tk) (sc + 1))))), (0, .ref rr), (1, .int (nI i))] := by have h := hl; have e := rbs_t (ok := (fun s => gtM (waysM cl (ai 0) (sna 0) (spa 0) (hea 0) (fm 0)) (absd (spa 0) (hea 0)) s tm tk)) (s := sc) (by omega) hgt (by omega); rw [e, lsv_nat]; have h := lv_sub h [0, 2, 1, 4, 5] rfl; simp only [nI_iI] at h ⊢; exact h
              exact ih26 (sc + 1) ((tkM (waysM cl (ai 0) (sna 0) (spa 0) (hea 0) (fm 0)) (tlM li' sc tm tm) tm).1) ((tkM (waysM cl (ai 0) (sna 0) (spa 0) (hea 0) (fm 0)) (tlM li' sc tm tm) tm).2) (tlM li' sc tm tm) (by omega) (by omega) _ _ (hP.sub [0, 1, 2, 3, 4, 5, 6, 7, 8, 9, 10, 11, 12] rfl) (hD.sub [0, 1, 2, 3, 4, 5, 6, 7, 8, 9, 10, 11, 12] rfl rfl) hS _ (lv_sub hl [0, 1, 2, 3, 4] rfl)
            · have hgt : gtM (waysM cl (ai 0) (sna 0) (spa 0) (hea 0) (fm 0)) (absd (spa 0) (hea 0)) sc tm tk = false := by rw [← it_gt (absd_le (by omega) (by omega)) (by omega), ← itM_cg (ln := tlM li' sc tm tm) (fun k hk => tlM_at hk)]; exact h25
              refine x_if_eq (tgt := 70) hx hb dX7_lines_61 (by decide) (by omega) (fun h27 => ?_) (fun h27 => False.elim (by omega))
              refine lv_iinc (v := (nI (sc + 1))) (lv' := [(4, .int (nI (sc + 1))), (5, .int (nI (wiM sc))), (2, .int (iI ((bsM (fun s => gtM (waysM cl (ai 0) (sna 0) (spa 0) (hea 0) (fm 0)) (absd (spa 0) (hea 0)) s tm tk) sc).1))), (3, .int (iI (lsv (bsM (fun s => gtM (waysM cl (ai 0) (sna 0) (spa 0) (hea 0) (fm 0)) (absd (spa 0) (hea 0)) s tm tk) sc)))), (0, .ref rr), (1, .int (nI i))]) hx hb dX7_lines_70 hl (k := 1) rfl (nI_inc _ 1) (by decide) rfl (fun ls hl => ?_)
              refine lv_goto (tgt := 26) hx hb dX7_lines_73 (by decide) ?_
              have hl : lv_has ls 6 [(4, .int (nI (sc + 1))), (2, .int (iI ((bsM (fun s => gtM (waysM cl (ai 0) (sna 0) (spa 0) (hea 0) (fm 0)) (absd (spa 0) (hea 0)) s tm tk) (sc + 1)).1))), (3, .int (iI (lsv (bsM (fun s => gtM (waysM cl (ai 0) (sna 0) (spa 0) (hea 0) (fm 0)) (absd (spa 0) (hea 0)) s tm tk) (sc + 1))))), (0, .ref rr), (1, .int (nI i))] := by have h := hl; have e := rbs_f (ok := (fun s => gtM (waysM cl (ai 0) (sna 0) (spa 0) (hea 0) (fm 0)) (absd (spa 0) (hea 0)) s tm tk)) (s := sc) (Or.inr hgt); rw [e]; have h := lv_sub h [0, 2, 3, 4, 5] rfl; simp only [nI_iI] at h ⊢; exact h
              exact ih26 (sc + 1) ((tkM (waysM cl (ai 0) (sna 0) (spa 0) (hea 0) (fm 0)) (tlM li' sc tm tm) tm).1) ((tkM (waysM cl (ai 0) (sna 0) (spa 0) (hea 0) (fm 0)) (tlM li' sc tm tm) tm).2) (tlM li' sc tm tm) (by omega) (by omega) _ _ (hP.sub [0, 1, 2, 3, 4, 5, 6, 7, 8, 9, 10, 11, 12] rfl) (hD.sub [0, 1, 2, 3, 4, 5, 6, 7, 8, 9, 10, 11, 12] rfl rfl) hS _ (lv_sub hl [0, 1, 2, 3, 4] rfl)
  exact loop26 _ 0 lg vg li (Nat.lt_succ_self _) (Nat.zero_le _) _ _ (hP.sub [0, 1, 2, 3, 4, 5, 6, 7, 8, 9, 10, 11, 12] rfl) (hD.sub [0, 1, 2, 3, 4, 5, 6, 7, 8, 9, 10, 11, 12] rfl rfl) hS _ (lv_sub hl [0, 2, 1, 3, 4] rfl)
