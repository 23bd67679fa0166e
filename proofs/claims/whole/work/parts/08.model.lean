/-! What the system computes, in Nat: both the class and the reference are held against this. -/
/-- how far two yards are apart -/
def absd (a b : Nat) : Nat := if a < b then b - a else a - b
theorem absd_le {a b M : Nat} (ha : a ≤ M) (hb : b ≤ M) : absd a b ≤ M := by
  unfold absd; split <;> omega
theorem absd_comm (a b : Nat) : absd a b = absd b a := by
  unfold absd; split <;> split <;> omega
theorem absd_self (a : Nat) : absd a a = 0 := by
  unfold absd; split <;> omega
theorem absd_tri (a b c : Nat) : absd a c ≤ absd a b + absd b c := by
  unfold absd; split <;> split <;> split <;> omega
/-- the ways back from a CLIFF: how much later, how much weaker -/
def wayM (cl : Nat → Nat) (air sn x y f : Nat) : List (Nat × Nat) :=
  if sn / 2 ^ f % 2 = 1 then [] else
    let far := absd x (cl (3 * f + 0)) + absd (cl (3 * f + 0)) y
    let beat := if cl (3 * f + 2) = 2 then far + 2 else far
    let loss := air * far + (if cl (3 * f + 2) = 1 then 2 * cl (3 * f + 1) else cl (3 * f + 1))
    (beat, loss) :: (if cl (3 * f + 2) = 3 then [(beat + 4, loss + 3)] else [])
/-- all ways from x to y, the DIRECT one first -/
def waysM (cl : Nat → Nat) (air sn x y : Nat) : Nat → List (Nat × Nat)
  | 0 => [(absd x y, air * absd x y)]
  | f + 1 => waysM cl air sn x y f ++ wayM cl air sn x y f
theorem wayM_len (cl : Nat → Nat) (air sn x y f : Nat) : (wayM cl air sn x y f).length ≤ 2 := by
  unfold wayM; split
  · simp
  · by_cases h : cl (3 * f + 2) = 3 <;> simp [h]
theorem waysM_len (cl : Nat → Nat) (air sn x y nc : Nat) : (waysM cl air sn x y nc).length ≤ 1 + 2 * nc := by
  induction nc with
  | zero => simp [waysM]
  | succ f ih =>
    have := wayM_len cl air sn x y f
    simp only [waysM, List.length_append]
    omega
theorem waysM_pos (cl : Nat → Nat) (air sn x y nc : Nat) : 0 < (waysM cl air sn x y nc).length := by
  induction nc with
  | zero => simp [waysM]
  | succ f ih => simp only [waysM, List.length_append]; omega
/-- what is heard, beat by beat: how loud, what -/
abbrev Snd : Type := (Nat → Nat) × (Nat → Nat)
def comeM (S : Snd) (b : Nat) (z : Int) (v : Nat) : Snd :=
  if z ≤ 0 ∨ z < (S.1 b : Int) ∨ 150 ≤ b then S else (upN S.1 b z.toNat, upN S.2 b (if z = (S.1 b : Int) ∧ ¬ S.2 b = v then 8 else v))
def carryM (S : Snd) (t v l : Nat) (L : List (Nat × Nat)) : Snd := L.foldl (fun S w => comeM S (t + w.1) ((l : Int) - (w.2 : Int)) v) S
def playM (S : Snd) (on : Nat → Bool) (wd : Nat → Nat) (L : List (Nat × Nat)) (d : Nat) : Nat → Snd
  | 0 => S
  | w + 1 => if on w then carryM (playM S on wd L d w) (wd (3 * w + 0) + d) (wd (3 * w + 1)) (wd (3 * w + 2)) L else playM S on wd L d w
def quietM : Snd := (fun _ => 0, fun _ => 0)
/-- a set of WORDS as bits -/
def bitsM (c : Nat → Bool) : Nat → Nat
  | 0 => 0
  | w + 1 => bitsM c w + (if c w then 2 ^ w else 0)
def cntM (c : Nat → Bool) : Nat → Nat
  | 0 => 0
  | w + 1 => cntM c w + (if c w then 1 else 0)
theorem bitsM_lt (c : Nat → Bool) (n : Nat) : bitsM c n < 2 ^ n := by
  induction n with
  | zero => simp [bitsM]
  | succ n ih =>
    simp only [bitsM, Nat.pow_succ]
    split <;> omega
theorem cntM_le (c : Nat → Bool) (n : Nat) : cntM c n ≤ n := by
  induction n with
  | zero => simp [cntM]
  | succ n ih =>
    simp only [cntM]
    split <;> omega

/-- numbers that stay small -/
def okS (S : Snd) : Prop := ∀ j, S.1 j < 2147483648 ∧ S.2 j < 2147483648
theorem okS_quiet : okS quietM := fun _ => ⟨Nat.le_of_ble_eq_true rfl, Nat.le_of_ble_eq_true rfl⟩
theorem okS_come {S : Snd} {b : Nat} {z : Int} {v : Nat} (h : okS S) (hz : z < 2147483648) (hv : v < 2147483648) : okS (comeM S b z v) := by
  unfold comeM
  split
  · exact h
  · intro j
    refine ⟨?_, ?_⟩
    · show upN S.1 b z.toNat j < _
      unfold upN; split
      · omega
      · exact (h j).1
    · show upN S.2 b _ j < _
      unfold upN; split
      · split <;> omega
      · exact (h j).2
theorem okS_carry {v l t : Nat} (hv : v < 2147483648) (hl : l < 2147483648) (L : List (Nat × Nat)) : ∀ S : Snd, okS S → okS (carryM S t v l L) := by
  unfold carryM
  induction L with
  | nil => intro S h; exact h
  | cons a L ih =>
    intro S h
    exact ih _ (okS_come h (by omega) hv)
theorem comeM_ge {S : Snd} {b : Nat} {z : Int} {v : Nat} (h : 150 ≤ b) : comeM S b z v = S := if_pos (Or.inr (Or.inr h))
theorem comeM_low {S : Snd} {b : Nat} {z : Int} {v : Nat} (h : z ≤ 0 ∨ z < (S.1 b : Int)) : comeM S b z v = S := if_pos (by rcases h with h | h; exact Or.inl h; exact Or.inr (Or.inl h))
theorem comeM_set {S : Snd} {b n v : Nat} (h0 : 0 < n) (h1 : S.1 b ≤ n) (h2 : b < 150) : comeM S b (n : Int) v = (upN S.1 b n, upN S.2 b (if n = S.1 b ∧ ¬ S.2 b = v then 8 else v)) := by
  unfold comeM
  rw [if_neg (by omega)]
  have e : ((n : Int) = (S.1 b : Int) ∧ ¬ S.2 b = v) ↔ (n = S.1 b ∧ ¬ S.2 b = v) := by omega
  simp only [e, Int.toNat_natCast]
/-- the ways as they lie in rows -/
def lenW (L : List (Nat × Nat)) : Nat := L.length
theorem lenW_app (L : List (Nat × Nat)) (a : Nat × Nat) : lenW (L ++ [a]) = lenW L + 1 := by simp [lenW]
def repW (bt ls : Nat → Nat) (L : List (Nat × Nat)) : Prop := ∀ j, j < lenW L → bt j = (L.getD j (0, 0)).1 ∧ ls j = (L.getD j (0, 0)).2 ∧ bt j ≤ 1000 ∧ ls j ≤ 100000
theorem carryM_0 (S : Snd) (t v l : Nat) (L : List (Nat × Nat)) : carryM S t v l (L.take 0) = S := by simp [carryM]
theorem carryM_s {bt ls : Nat → Nat} {L : List (Nat × Nat)} (h : repW bt ls L) {i : Nat} (hi : i < lenW L) (S : Snd) (t v l : Nat) : carryM S t v l (L.take (i + 1)) = comeM (carryM S t v l (L.take i)) (t + bt i) ((l : Int) - (ls i : Int)) v := by
  have hj := h i hi
  rw [hj.1, hj.2.1]
  have e : L.take (i + 1) = L.take i ++ [L.getD i (0, 0)] := by
    rw [List.take_add_one, List.getD_eq_getElem?_getD, List.getElem?_eq_getElem (show i < L.length from hi)]; rfl
  unfold carryM
  rw [e, List.foldl_append]; rfl
theorem carryM_all (S : Snd) (t v l : Nat) (L : List (Nat × Nat)) : carryM S t v l (L.take (lenW L)) = carryM S t v l L := by unfold lenW; rw [List.take_length]
def okD (wd : Nat → Nat) (nw : Nat) : Prop := ∀ w, w < nw → wd (3 * w + 0) ≤ 30 ∧ 1 ≤ wd (3 * w + 1) ∧ wd (3 * w + 1) ≤ 7 ∧ 1 ≤ wd (3 * w + 2) ∧ wd (3 * w + 2) ≤ 60
def okC (cl : Nat → Nat) (nc : Nat) : Prop := ∀ f, f < nc → cl (3 * f + 0) ≤ 40 ∧ cl (3 * f + 1) ≤ 9 ∧ cl (3 * f + 2) ≤ 3
def onS (set w : Nat) : Bool := decide (set / 2 ^ w % 2 = 1)
theorem onS_t {set w : Nat} (h : set / 2 ^ w % 2 = 1) : onS set w = true := decide_eq_true h
theorem onS_f {set w : Nat} (h : ¬ set / 2 ^ w % 2 = 1) : onS set w = false := decide_eq_false h
theorem playM_t {S : Snd} {on : Nat → Bool} {wd : Nat → Nat} {L : List (Nat × Nat)} {d w : Nat} (h : on w = true) : playM S on wd L d (w + 1) = carryM (playM S on wd L d w) (wd (3 * w + 0) + d) (wd (3 * w + 1)) (wd (3 * w + 2)) L := if_pos h
theorem playM_f {S : Snd} {on : Nat → Bool} {wd : Nat → Nat} {L : List (Nat × Nat)} {d w : Nat} (h : on w = false) : playM S on wd L d (w + 1) = playM S on wd L d w := by
  show (if on w then _ else _) = _
  rw [h]; rfl
theorem okS_play {S : Snd} (h : okS S) {on : Nat → Bool} {wd : Nat → Nat} {L : List (Nat × Nat)} {d nw : Nat} (hd : okD wd nw) : ∀ w, w ≤ nw → okS (playM S on wd L d w) := by
  intro w
  induction w with
  | zero => intro _; exact h
  | succ w ih =>
    intro hw
    have hj := hd w (by omega)
    cases ho : on w with
    | true => rw [playM_t ho]; exact okS_carry (by omega) (by omega) L _ (ih (by omega))
    | false => rw [playM_f ho]; exact ih (by omega)
/-- a WORD comes by a way, and is heard then -/
def hitM (S : Snd) (wd : Nat → Nat) (w d y z : Nat) : Bool := decide (z < wd (3 * w + 2)) && decide (wd (3 * w + 0) + d + y < 150 ∧ S.2 (wd (3 * w + 0) + d + y) = wd (3 * w + 1))
theorem hitM_t {S : Snd} {wd : Nat → Nat} {w d y z : Nat} (h1 : z < wd (3 * w + 2)) (h2 : wd (3 * w + 0) + d + y < 150) (h3 : S.2 (wd (3 * w + 0) + d + y) = wd (3 * w + 1)) : hitM S wd w d y z = true := by
  unfold hitM; rw [decide_eq_true h1, decide_eq_true ⟨h2, h3⟩]; rfl
theorem hitM_f1 {S : Snd} {wd : Nat → Nat} {w d y z : Nat} (h1 : wd (3 * w + 2) ≤ z) : hitM S wd w d y z = false := by
  unfold hitM; rw [decide_eq_false (by omega)]; rfl
theorem hitM_f2 {S : Snd} {wd : Nat → Nat} {w d y z : Nat} (h2 : 150 ≤ wd (3 * w + 0) + d + y) : hitM S wd w d y z = false := by
  unfold hitM; rw [decide_eq_false (p := _ ∧ _) (by omega), Bool.and_false]
theorem hitM_f3 {S : Snd} {wd : Nat → Nat} {w d y z : Nat} (h3 : ¬ S.2 (wd (3 * w + 0) + d + y) = wd (3 * w + 1)) : hitM S wd w d y z = false := by
  unfold hitM; rw [decide_eq_false (p := _ ∧ _) (by omega), Bool.and_false]
theorem bitsM_t {c : Nat → Bool} {w : Nat} (h : c w = true) : bitsM c (w + 1) = bitsM c w + 2 ^ w := by
  show _ + (if c w then _ else _) = _
  rw [h]; rfl
theorem bitsM_f {c : Nat → Bool} {w : Nat} (h : c w = false) : bitsM c (w + 1) = bitsM c w := by
  show _ + (if c w then _ else _) = _
  rw [h]; rfl
theorem cntM_t {c : Nat → Bool} {w : Nat} (h : c w = true) : cntM c (w + 1) = cntM c w + 1 := by
  show _ + (if c w then _ else _) = _
  rw [h]; rfl
theorem cntM_f {c : Nat → Bool} {w : Nat} (h : c w = false) : cntM c (w + 1) = cntM c w := by
  show _ + (if c w then _ else _) = _
  rw [h]; rfl
theorem repW_app {bt ls : Nat → Nat} {L : List (Nat × Nat)} (h : repW bt ls L) {y z : Nat} (hy : y ≤ 1000) (hz : z ≤ 100000) : repW (upN bt (lenW L) y) (upN ls (lenW L) z) (L ++ [(y, z)]) := by
  intro j hj
  rw [lenW_app] at hj
  by_cases hl : j = lenW L
  · subst hl
    rw [upN_s, upN_s]
    have e : (L ++ [(y, z)]).getD (lenW L) (0, 0) = (y, z) := by simp [lenW]
    rw [e]
    exact ⟨rfl, rfl, hy, hz⟩
  · rw [upN_n hl, upN_n hl]
    have hlt : j < lenW L := by omega
    have e : (L ++ [(y, z)]).getD j (0, 0) = L.getD j (0, 0) := by
      have h2 : j < L.length := hlt
      simp [List.getElem?_append, h2]
    rw [e]
    exact h j hlt
theorem waysM_lenW (cl : Nat → Nat) (air sn x y i : Nat) : lenW (waysM cl air sn x y i) ≤ 1 + 2 * i := waysM_len cl air sn x y i
theorem waysM_snow {cl : Nat → Nat} {air sn x y i : Nat} (h : sn / 2 ^ i % 2 = 1) : waysM cl air sn x y (i + 1) = waysM cl air sn x y i := by
  show _ ++ wayM cl air sn x y i = _
  unfold wayM; rw [if_pos h, List.append_nil]
theorem waysM_s (cl : Nat → Nat) (air sn x y i : Nat) : waysM cl air sn x y (i + 1) = waysM cl air sn x y i ++ wayM cl air sn x y i := rfl
/-- abs of a difference -/
theorem abs_nI {a b : Nat} (ha : a < 1073741824) (hb : b < 1073741824) : (if 0 ≤ iI ((a : Int) - (b : Int)) then iI ((a : Int) - (b : Int)) else 0 - iI ((a : Int) - (b : Int))) = nI (absd a b) := by
  have h0 : (0 : Int32) = iI 0 := rfl
  unfold absd
  rw [nI_iI]
  by_cases h : a < b
  · rw [if_neg (by rw [h0, iI_le (by omega) (by omega)]; omega), if_pos h, h0, iI_sub]
    congr 1; omega
  · rw [if_pos (by rw [h0, iI_le (by omega) (by omega)]; omega), if_neg h]
    congr 1; omega
