/-! What the law holds of both sides, in numbers alone. -/
theorem sc_int (v : Int32) : ∃ z : Int, (-2147483648 ≤ z ∧ z < 2147483648) ∧ v = iI z :=
  ⟨v.toInt, ⟨Int32.le_toInt v, Int32.toInt_lt v⟩, (Int32.ofInt_toInt v).symm⟩
theorem up_s {α : Type} (f : Nat → α) (k : Nat) (v : α) : va_up f k v k = v := by simp [va_up]
theorem up_n {α : Type} {f : Nat → α} {k j : Nat} {v : α} (h : j ≠ k) : va_up f k v j = f j := by simp [va_up, h]
theorem rot_lt {α : Type} {f : Nat → α} {j : Nat} (h : j < 7) : rot 8 f j = f (j + 1) := by unfold rot; rw [if_neg (by omega)]
theorem rot_7 {α : Type} {f : Nat → α} : rot 8 f 7 = f 0 := by unfold rot; rw [if_pos rfl]
def Qtxt (tx : Nat → Nat) (len : Nat) : Prop := len ≤ 300 ∧ okB tx len
theorem Qtxt_0 (tx : Nat → Nat) : Qtxt tx 0 := ⟨Nat.zero_le _, fun p => by rw [byM_ge (Nat.zero_le p)]; exact Nat.zero_le _⟩
theorem Qtxt_app {tx : Nat → Nat} {len n : Nat} {xv : Int64} (h : Qtxt tx len) (hl : len + n ≤ 300) : Qtxt (appM tx len n xv n) (len + n) := by
  refine ⟨hl, fun p => ?_⟩
  by_cases hp : p < len + n
  · rw [byM_lt hp]
    by_cases h2 : len ≤ p ∧ p < len + n
    · rw [show appM tx len n xv n p = bytM xv (n - 1 - (p - len)) from if_pos h2]
      exact Nat.le_of_lt_succ (bytM_lt _ _)
    · rw [show appM tx len n xv n p = tx p from if_neg h2]
      have h3 := h.2 p
      rw [byM_lt (by omega)] at h3
      exact h3
  · rw [byM_ge (by omega)]; exact Nat.zero_le _
def Qscr (g to : Nat → Nat) (kn nct nwt : Nat) : Prop := (∀ j, g j < 1000) ∧ kn ≤ 3 ∧ (∀ j, to j < 1000) ∧ nct ≤ 4 ∧ nwt ≤ 8
def Qtalk (tm : Nat) (tk : Nat → Nat) : Prop := tm ≤ 6 ∧ ∀ j, j < tm → tk j ≤ 3
theorem Qtalk_add {tm v : Nat} {tk : Nat → Nat} (h : Qtalk tm tk) (h6 : tm < 6) (hv : v ≤ 3) : Qtalk (tm + 1) (upN tk tm v) := by
  refine ⟨by omega, fun j hj => ?_⟩
  by_cases e : j = tm
  · rw [e, upN_s]; exact hv
  · rw [upN_n e]; exact h.2 j (by omega)
theorem Qtalk_0 (tk : Nat → Nat) : Qtalk 0 tk := ⟨by omega, fun j hj => absurd hj (Nat.not_lt_zero j)⟩
def Qear (em : Nat) (ea eb eh eg : Nat → Nat) : Prop := em ≤ 9 ∧ relE ea eb eh eg em ∧ ∀ i, i < em → eg (3 * i + 0) ≤ 40 ∧ eg (3 * i + 1) ≤ 149 ∧ eg (3 * i + 2) ≤ 8
theorem Qear_0 (ea eb eh eg : Nat → Nat) : Qear 0 ea eb eh eg := ⟨by omega, fun j hj => absurd hj (Nat.not_lt_zero j), fun j hj => absurd hj (Nat.not_lt_zero j)⟩
theorem Qear_add {em x y z : Nat} {ea eb eh eg : Nat → Nat} (h : Qear em ea eb eh eg) (h9 : em < 9) (hx : x ≤ 40 ∧ y ≤ 149 ∧ z ≤ 8) : Qear (em + 1) (upN ea em x) (upN eb em y) (upN eh em z) (add3 eg (3 * em) x y z) := by
  refine ⟨by omega, fun i hi => ?_, fun i hi => ?_⟩
  · by_cases e : i = em
    · subst e; rw [upN_s, upN_s, upN_s, add3_0, add3_1, add3_2]; exact ⟨rfl, rfl, rfl⟩
    · rw [upN_n e, upN_n e, upN_n e, add3_lt (by omega), add3_lt (by omega), add3_lt (by omega)]
      exact h.2.1 i (by omega)
  · by_cases e : i = em
    · subst e; rw [add3_0, add3_1, add3_2]; exact hx
    · rw [add3_lt (by omega), add3_lt (by omega), add3_lt (by omega)]
      exact h.2.2 i (by omega)
def Qcan (fm pq dq kq ai wma be va lo spa hea sna cl wd : Nat → Nat) : Prop :=
  (fm 0 ≤ 4 ∧ wma 0 ≤ 8 ∧ ai 0 ≤ 9 ∧ spa 0 ≤ 40 ∧ hea 0 ≤ 40 ∧ sna 0 < 2147483648) ∧ okC cl (fm 0) ∧ okD wd (wma 0) ∧ relC pq dq kq cl (fm 0) ∧ relD be va lo wd (wma 0)
section QC
variable {fm pq dq kq ai wma be va lo spa hea sna cl wd : Nat → Nat}
theorem Qcan_sp (h : Qcan fm pq dq kq ai wma be va lo spa hea sna cl wd) {x : Nat} (hx : x ≤ 40) : Qcan fm pq dq kq ai wma be va lo (upN spa 0 x) hea sna cl wd := by
  obtain ⟨⟨h1, h2, h3, h4, h5, h6⟩, h7⟩ := h
  exact ⟨⟨h1, h2, h3, by rw [upN_s]; exact hx, h5, h6⟩, h7⟩
theorem Qcan_he (h : Qcan fm pq dq kq ai wma be va lo spa hea sna cl wd) {x : Nat} (hx : x ≤ 40) : Qcan fm pq dq kq ai wma be va lo spa (upN hea 0 x) sna cl wd := by
  obtain ⟨⟨h1, h2, h3, h4, h5, h6⟩, h7⟩ := h
  exact ⟨⟨h1, h2, h3, h4, by rw [upN_s]; exact hx, h6⟩, h7⟩
theorem Qcan_sn (h : Qcan fm pq dq kq ai wma be va lo spa hea sna cl wd) {x : Nat} (hx : x < 2147483648) : Qcan fm pq dq kq ai wma be va lo spa hea (upN sna 0 x) cl wd := by
  obtain ⟨⟨h1, h2, h3, h4, h5, h6⟩, h7⟩ := h
  exact ⟨⟨h1, h2, h3, h4, h5, by rw [upN_s]; exact hx⟩, h7⟩
theorem Qcan_say (h : Qcan fm pq dq kq ai wma be va lo spa hea sna cl wd) {x y z : Nat} (hx : x ≤ 30 ∧ 1 ≤ y ∧ y ≤ 7 ∧ 1 ≤ z ∧ z ≤ 60 ∧ wma 0 < 8) : Qcan fm pq dq kq ai (upN wma 0 (wma 0 + 1)) (upN be (8 * 0 + wma 0) x) (upN va (8 * 0 + wma 0) y) (upN lo (8 * 0 + wma 0) z) spa hea sna cl (add3 wd (3 * wma 0) x y z) := by
  obtain ⟨⟨h1, h2, h3, h4, h5, h6⟩, h7, h8, h9, h10⟩ := h
  refine ⟨⟨h1, by rw [upN_s]; omega, h3, h4, h5, h6⟩, h7, ?_, h9, ?_⟩
  · rw [upN_s]
    intro w hw
    by_cases e : w = wma 0
    · rw [e, add3_0, add3_1, add3_2]; omega
    · rw [add3_lt (by omega), add3_lt (by omega), add3_lt (by omega)]; exact h8 w (by omega)
  · rw [upN_s]
    intro w hw
    by_cases e : w = wma 0
    · rw [show 8 * 0 + wma 0 = wma 0 from by omega, e, upN_s, upN_s, upN_s, add3_0, add3_1, add3_2]; exact ⟨rfl, rfl, rfl⟩
    · rw [upN_n (by omega), upN_n (by omega), upN_n (by omega), add3_lt (by omega), add3_lt (by omega), add3_lt (by omega)]; exact h10 w (by omega)
theorem Qcan_fr {fm' pq' dq' kq' ai' wma' be' va' lo' spa' hea' : Nat → Nat} (h : Qcan fm pq dq kq ai wma be va lo spa hea sna cl wd) (hf : frB fm pq dq kq ai wma be va lo spa hea fm' pq' dq' kq' ai' wma' be' va' lo' spa' hea') : Qcan fm' pq' dq' kq' ai' wma' be' va' lo' spa' hea' (upN sna 1 0) cl wd := by
  obtain ⟨⟨h1, h2, h3, h4, h5, h6⟩, h7, h8, h9, h10⟩ := h
  obtain ⟨⟨f1, f2⟩, f3, f4, f5⟩ := hf
  obtain ⟨g1, g2, g3⟩ := f4 0 (by omega)
  refine ⟨⟨by omega, by omega, by omega, by omega, by omega, by rw [upN_n (by omega)]; exact h6⟩, by rw [f1]; exact h7, by rw [g1]; exact h8, ?_, ?_⟩
  · rw [f1]
    intro f hf
    obtain ⟨k1, k2, k3⟩ := f3 f (by omega)
    rw [k1, k2, k3]; exact h9 f hf
  · rw [g1]
    intro w hw
    obtain ⟨k1, k2, k3⟩ := f5 w (by omega)
    rw [k1, k2, k3]; exact h10 w hw
theorem fr_0 {fm' pq' dq' kq' ai' wma' be' va' lo' spa' hea' : Nat → Nat} (hf : frB fm pq dq kq ai wma be va lo spa hea fm' pq' dq' kq' ai' wma' be' va' lo' spa' hea') : fm' 0 = fm 0 ∧ ai' 0 = ai 0 ∧ wma' 0 = wma 0 ∧ spa' 0 = spa 0 ∧ hea' 0 = hea 0 :=
  ⟨hf.1.1, hf.1.2, (hf.2.2.1 0 (by omega)).1, (hf.2.2.1 0 (by omega)).2.1, (hf.2.2.1 0 (by omega)).2.2⟩
theorem Qcan_lay {clr wdr : Nat → Nat} {ncr nwr spr her airr : Nat} (hr : relB fm pq dq kq ai wma be va lo spa hea clr ncr wdr nwr spr her airr) (ho : okC clr ncr ∧ okD wdr nwr ∧ spr ≤ 40 ∧ her ≤ 40 ∧ airr ≤ 9) (hs : sna 1 < 2147483648) : Qcan (upN fm 0 (fm 1)) (mv4 pq 4) (mv4 dq 4) (mv4 kq 4) (upN ai 0 (ai 1)) (upN wma 0 (wma 1)) (cp8 be 1 0 8) (cp8 va 1 0 8) (cp8 lo 1 0 8) (upN spa 0 (spa 1)) (upN hea 0 (hea 1)) (upN sna 0 (sna 1)) (cpN cl clr (3 * ncr)) (cpN wd wdr (3 * nwr)) := by
  obtain ⟨⟨r1, r2, r3, r4, r5⟩, ⟨r6, r7⟩, r8, r9⟩ := hr
  refine ⟨⟨by rw [upN_s]; omega, by rw [upN_s]; omega, by rw [upN_s]; omega, by rw [upN_s]; omega, by rw [upN_s]; omega, by rw [upN_s]; exact hs⟩, ?_, ?_, ?_, ?_⟩
  · rw [upN_s, r1]; exact okC_same (sameC_cp cl clr ncr) ho.1
  · rw [upN_s, r2]; exact okD_same (sameC_cp wd wdr nwr) ho.2.1
  · rw [upN_s, r1]
    intro f hf
    rw [cpN_lt (by omega), cpN_lt (by omega), cpN_lt (by omega)]
    have h4 : f < 4 := by omega
    rw [show mv4 pq 4 f = pq (4 + f) from if_pos h4, show mv4 dq 4 f = dq (4 + f) from if_pos h4, show mv4 kq 4 f = kq (4 + f) from if_pos h4]
    exact r8 f hf
  · rw [upN_s, r2]
    intro w hw
    rw [cpN_lt (by omega), cpN_lt (by omega), cpN_lt (by omega)]
    have h8 : 8 * 0 ≤ w ∧ w < 8 * 0 + 8 := by omega
    rw [show cp8 be 1 0 8 w = be (8 * 1 + (w - 8 * 0)) from if_pos h8, show cp8 va 1 0 8 w = va (8 * 1 + (w - 8 * 0)) from if_pos h8, show cp8 lo 1 0 8 w = lo (8 * 1 + (w - 8 * 0)) from if_pos h8, show w - 8 * 0 = w from by omega]
    exact r9 w hw
end QC
/-- what a text is read as keeps to the document's bounds -/
def okDr (d : Dr) : Prop := match d with
  | (cl, nc, wd, nw, sp, he, air) => (nc ≤ 4 ∧ nw ≤ 8) ∧ okC cl nc ∧ okD wd nw ∧ sp ≤ 40 ∧ he ≤ 40 ∧ air ≤ 9
theorem accept_ok {letter x y z : Nat} {d d' : Dr} (h : okDr d) (ha : acceptM letter x y z d = some d') : okDr d' := by
  obtain ⟨cl, nc, wd, nw, sp, he, air⟩ := d
  obtain ⟨⟨h1, h2⟩, h3, h4, h5, h6, h7⟩ := h
  unfold acceptM at ha
  dsimp only at ha
  split at ha
  · split at ha
    · have e := Option.some.inj ha
      subst e
      refine ⟨⟨by omega, h2⟩, fun f hf => ?_, h4, h5, h6, h7⟩
      by_cases e : f = nc
      · subst e; rw [add3_0, add3_1, add3_2]; omega
      · rw [add3_lt (by omega), add3_lt (by omega), add3_lt (by omega)]; exact h3 f (by omega)
    · cases ha
  · split at ha
    · split at ha
      · have e := Option.some.inj ha
        subst e
        refine ⟨⟨h1, by omega⟩, h3, fun w hw => ?_, h5, h6, h7⟩
        by_cases e : w = nw
        · subst e; rw [add3_0, add3_1, add3_2]; omega
        · rw [add3_lt (by omega), add3_lt (by omega), add3_lt (by omega)]; exact h4 w (by omega)
      · cases ha
    · split at ha
      · split at ha
        · have e := Option.some.inj ha
          subst e
          exact ⟨⟨h1, h2⟩, h3, h4, by assumption, h6, h7⟩
        · cases ha
      · split at ha
        · split at ha
          · have e := Option.some.inj ha
            subst e
            exact ⟨⟨h1, h2⟩, h3, h4, h5, by assumption, h7⟩
          · cases ha
        · split at ha
          · split at ha
            · have e := Option.some.inj ha
              subst e
              exact ⟨⟨h1, h2⟩, h3, h4, h5, h6, by omega⟩
            · cases ha
          · cases ha
theorem item_ok {B : Nat → Nat} {p p' : Nat} {d d' : Dr} (h : okDr d) (hi : itemM B p d = some (d', p')) : okDr d' := by
  unfold itemM at hi
  split at hi
  · cases hi
  · cases ha : acceptM (B p) _ _ _ d with
    | none => rw [ha] at hi; cases hi
    | some d2 =>
      rw [ha] at hi
      have e := Option.some.inj hi
      have e2 : d2 = d' := congrArg Prod.fst e
      rw [← e2]
      exact accept_ok h ha
theorem read_ok {B : Nat → Nat} {len : Nat} : ∀ (k p : Nat) (d d' : Dr), okDr d → readM B len k p d = .inr d' → okDr d' := by
  intro k
  induction k with
  | zero => intro p d d' h hr; have e := Sum.inr.inj hr; rw [← e]; exact h
  | succ k ih =>
    intro p d d' h hr
    by_cases hp : p < len
    · cases hi : itemM B p d with
      | none => rw [readM_in hp hi] at hr; cases hr
      | some q =>
        obtain ⟨d2, p2⟩ := q
        rw [readM_go hp hi] at hr
        exact ih p2 d2 d' (item_ok h hi) hr
    · rw [readM_end (by omega)] at hr
      have e := Sum.inr.inj hr; rw [← e]; exact h
theorem okDr_0 (cl wd : Nat → Nat) : okDr (dr0 cl wd) := ⟨⟨by omega, by omega⟩, fun f hf => absurd hf (Nat.not_lt_zero f), fun f hf => absurd hf (Nat.not_lt_zero f), by omega, by omega, by omega⟩
/-- UNDONE -/
def Qpast (un xs xh xo yn xn xa : Nat → Nat) (xl yl : Nat → Nat → Nat) (cl wd : Nat → Nat) (nc nw air uo : Nat) : Prop :=
  uo ≤ 8 ∧ (∀ j, j < 8 → xn j ≤ 4 ∧ yn j ≤ 8) ∧ (∀ j, j < uo → (xs j = un (4 * j) ∧ xh j = un (4 * j + 1) ∧ xo j = un (4 * j + 2) ∧ yn j = un (4 * j + 3) ∧ xn j = nc ∧ xa j = air) ∧ xs j ≤ 40 ∧ xh j ≤ 40 ∧ xo j < 2147483648 ∧ yn j ≤ nw) ∧ (∀ j, j < uo → ∀ q, q < 3 * nc → xl j q = cl q) ∧ (∀ j, j < uo → ∀ q, q < 3 * yn j → yl j q = wd q) ∧ (∀ i j, i ≤ j → j < uo → yn i ≤ yn j)
section QP
variable {un xs xh xo yn xn xa : Nat → Nat} {xl yl : Nat → Nat → Nat} {cl wd : Nat → Nat} {nc nw air uo : Nat}
theorem Qpast_0 (h : ∀ j, j < 8 → xn j ≤ 4 ∧ yn j ≤ 8) (un xs xh xo xa : Nat → Nat) (xl yl : Nat → Nat → Nat) (cl wd : Nat → Nat) (nc nw air : Nat) : Qpast un xs xh xo yn xn xa xl yl cl wd nc nw air 0 :=
  ⟨by omega, h, fun j hj => absurd hj (Nat.not_lt_zero j), fun j hj => absurd hj (Nat.not_lt_zero j), fun j hj => absurd hj (Nat.not_lt_zero j), fun _ j _ hj => absurd hj (Nat.not_lt_zero j)⟩
theorem Qpast_push (h : Qpast un xs xh xo yn xn xa xl yl cl wd nc nw air uo) (hu : uo < 8) {sp he sn : Nat} (hb : nc ≤ 4 ∧ nw ≤ 8 ∧ sp ≤ 40 ∧ he ≤ 40 ∧ sn < 2147483648) : Qpast (upN (upN (upN (upN un (4 * uo) sp) (4 * uo + 1) he) (4 * uo + 2) sn) (4 * uo + 3) nw) (va_up xs uo sp) (va_up xh uo he) (va_up xo uo sn) (va_up yn uo nw) (va_up xn uo nc) (va_up xa uo air) (va_up xl uo (cpN (xl uo) cl (3 * nc))) (va_up yl uo (cpN (yl uo) wd (3 * nw))) cl wd nc nw air (uo + 1) := by
  obtain ⟨h1, h2, h3, h4, h5, h6⟩ := h
  refine ⟨by omega, fun j hj => ?_, fun j hj => ?_, fun j hj q hq => ?_, fun j hj q hq => ?_, fun i j hij hj => ?_⟩
  · by_cases e : j = uo
    · rw [e, up_s, up_s]; omega
    · rw [up_n e, up_n e]; exact h2 j hj
  · by_cases e : j = uo
    · subst e
      simp only [up_s]
      rw [upN_n (by omega), upN_n (by omega), upN_n (by omega), upN_s, upN_n (by omega), upN_n (by omega), upN_s, upN_n (by omega), upN_s, upN_s]
      exact ⟨⟨by trivial, by trivial, by trivial, by trivial, by trivial, by trivial⟩, by omega, by omega, by omega, Nat.le_refl _⟩
    · simp only [up_n e]
      simp (disch := omega) only [upN_n]
      exact h3 j (by omega)
  · by_cases e : j = uo
    · rw [e, up_s, cpN_lt hq]
    · rw [up_n e]; exact h4 j (by omega) q hq
  · by_cases e : j = uo
    · rw [e, up_s] at hq
      rw [e, up_s, cpN_lt hq]
    · rw [up_n e] at hq ⊢; exact h5 j (by omega) q hq
  · by_cases e : j = uo
    · rw [e, up_s]
      by_cases e2 : i = uo
      · rw [e2, up_s]; exact Nat.le_refl _
      · rw [up_n e2]; exact (h3 i (by omega)).2.2.2.2
    · rw [up_n e, up_n (by omega)]; exact h6 i j hij (by omega)
theorem Qpast_rot (h : Qpast un xs xh xo yn xn xa xl yl cl wd nc nw air 8) : Qpast (shf un 28) (rot 8 xs) (rot 8 xh) (rot 8 xo) (rot 8 yn) (rot 8 xn) (rot 8 xa) (rot 8 xl) (rot 8 yl) cl wd nc nw air 7 := by
  obtain ⟨h1, h2, h3, h4, h5, h6⟩ := h
  refine ⟨by omega, fun j hj => ?_, fun j hj => ?_, fun j hj q hq => ?_, fun j hj q hq => ?_, fun i j hij hj => ?_⟩
  · by_cases e : j = 7
    · rw [e, rot_7, rot_7]; exact h2 0 (by omega)
    · rw [rot_lt (by omega), rot_lt (by omega)]; exact h2 (j + 1) (by omega)
  · have h9 := h3 (j + 1) (by omega)
    rw [rot_lt hj, rot_lt hj, rot_lt hj, rot_lt hj, rot_lt hj, rot_lt hj]
    rw [show shf un 28 (4 * j) = un (4 * j + 4) from if_pos (by omega), show shf un 28 (4 * j + 1) = un (4 * j + 1 + 4) from if_pos (by omega), show shf un 28 (4 * j + 2) = un (4 * j + 2 + 4) from if_pos (by omega), show shf un 28 (4 * j + 3) = un (4 * j + 3 + 4) from if_pos (by omega)]
    exact h9
  · rw [rot_lt hj]; exact h4 (j + 1) (by omega) q hq
  · rw [rot_lt hj] at hq ⊢; exact h5 (j + 1) (by omega) q hq
  · rw [rot_lt hj, rot_lt (by omega)]; exact h6 (i + 1) (j + 1) (by omega) (by omega)
theorem Qpast_grow (h : Qpast un xs xh xo yn xn xa xl yl cl wd nc nw air uo) (x y z : Nat) : Qpast un xs xh xo yn xn xa xl yl cl (add3 wd (3 * nw) x y z) nc (nw + 1) air uo := by
  obtain ⟨h1, h2, h3, h4, h5, h6⟩ := h
  refine ⟨h1, h2, fun j hj => ?_, h4, fun j hj q hq => ?_, h6⟩
  · obtain ⟨a1, a2, a3, a4, a5⟩ := h3 j hj
    exact ⟨a1, a2, a3, a4, by omega⟩
  · have := (h3 j hj).2.2.2.2
    rw [add3_lt (by omega)]; exact h5 j hj q hq
theorem Qpast_pop (h : Qpast un xs xh xo yn xn xa xl yl cl wd nc nw air uo) (hu : 1 ≤ uo) : Qpast un xs xh xo yn xn xa xl yl cl wd nc (un (4 * (uo - 1) + 3)) air (uo - 1) := by
  obtain ⟨h1, h2, h3, h4, h5, h6⟩ := h
  have e := (h3 (uo - 1) (by omega)).1.2.2.2.1
  refine ⟨by omega, h2, fun j hj => ?_, fun j hj => h4 j (by omega), fun j hj => h5 j (by omega), fun i j hij hj => h6 i j hij (by omega)⟩
  obtain ⟨a1, a2, a3, a4, a5⟩ := h3 j (by omega)
  exact ⟨a1, a2, a3, a4, by rw [← e]; exact h6 j (uo - 1) (by omega) (by omega)⟩
/-- the latest of UNDONE is the canyon with four numbers -/
theorem Qpast_top (h : Qpast un xs xh xo yn xn xa xl yl cl wd nc nw air uo) (hu : 1 ≤ uo) : cpN cl (xl (uo - 1)) (3 * xn (uo - 1)) = cl ∧ cpN wd (yl (uo - 1)) (3 * yn (uo - 1)) = wd ∧ xn (uo - 1) = nc ∧ yn (uo - 1) = un (4 * (uo - 1) + 3) ∧ xs (uo - 1) = un (4 * (uo - 1)) ∧ xh (uo - 1) = un (4 * (uo - 1) + 1) ∧ xa (uo - 1) = air ∧ xo (uo - 1) = un (4 * (uo - 1) + 2) := by
  obtain ⟨h1, h2, h3, h4, h5, h6⟩ := h
  obtain ⟨⟨a1, a2, a3, a4, a5, a6⟩, -⟩ := h3 (uo - 1) (by omega)
  refine ⟨?_, ?_, a5, a4, a1, a2, a6, a3⟩
  · funext q; unfold cpN
    split
    · exact h4 (uo - 1) (by omega) q (by rw [← a5]; assumption)
    · rfl
  · funext q; unfold cpN
    split
    · exact h5 (uo - 1) (by omega) q (by assumption)
    · rfl
theorem Qpast_bd (h : Qpast un xs xh xo yn xn xa xl yl cl wd nc nw air uo) (hu : 1 ≤ uo) : un (4 * (uo - 1)) ≤ 40 ∧ un (4 * (uo - 1) + 1) ≤ 40 ∧ un (4 * (uo - 1) + 2) < 2147483648 ∧ un (4 * (uo - 1) + 3) ≤ nw := by
  obtain ⟨⟨a1, a2, a3, a4, a5, a6⟩, b1, b2, b3, b4⟩ := h.2.2.1 (uo - 1) (by omega)
  omega
end QP
theorem Qcan_undo {fm pq dq kq ai wma be va lo spa hea sna cl wd : Nat → Nat} (h : Qcan fm pq dq kq ai wma be va lo spa hea sna cl wd) {a b c d : Nat} (hb : a ≤ 40 ∧ b ≤ 40 ∧ c < 2147483648 ∧ d ≤ wma 0) : Qcan fm pq dq kq ai (upN wma 0 d) be va lo (upN spa 0 a) (upN hea 0 b) (upN sna 0 c) cl wd := by
  obtain ⟨⟨h1, h2, h3, h4, h5, h6⟩, h7, h8, h9, h10⟩ := h
  refine ⟨⟨h1, by rw [upN_s]; omega, h3, by rw [upN_s]; omega, by rw [upN_s]; omega, by rw [upN_s]; omega⟩, h7, ?_, h9, ?_⟩
  · rw [upN_s]; exact fun w hw => h8 w (by omega)
  · rw [upN_s]; exact fun w hw => h10 w (by omega)
/-- KEPT -/
def Qkept (zs zh zo mn zn za : Nat → Nat) (zl ml : Nat → Nat → Nat) (cl : Nat → Nat) (nc air kp : Nat) (wma spa hea sna be va lo : Nat → Nat) : Prop :=
  kp ≤ 2 ∧ (∀ j, j < 2 → zn j ≤ 4 ∧ mn j ≤ 8) ∧ (∀ j, j < kp → (zs j = spa (2 + j) ∧ zh j = hea (2 + j) ∧ zo j = sna (2 + j) ∧ mn j = wma (2 + j) ∧ zn j = nc ∧ za j = air) ∧ zs j ≤ 40 ∧ zh j ≤ 40 ∧ zo j < 2147483648) ∧ (∀ j, j < kp → ∀ q, q < 3 * nc → zl j q = cl q) ∧ (∀ j, j < kp → okD (ml j) (mn j) ∧ ∀ w, w < mn j → be (8 * (2 + j) + w) = ml j (3 * w + 0) ∧ va (8 * (2 + j) + w) = ml j (3 * w + 1) ∧ lo (8 * (2 + j) + w) = ml j (3 * w + 2))
section QK
variable {zs zh zo mn zn za : Nat → Nat} {zl ml : Nat → Nat → Nat} {cl : Nat → Nat} {nc air kp : Nat} {wma spa hea sna be va lo : Nat → Nat}
theorem Qkept_0 (h : ∀ j, j < 2 → zn j ≤ 4 ∧ mn j ≤ 8) (zs zh zo za : Nat → Nat) (zl ml : Nat → Nat → Nat) (cl : Nat → Nat) (nc air : Nat) (wma spa hea sna be va lo : Nat → Nat) : Qkept zs zh zo mn zn za zl ml cl nc air 0 wma spa hea sna be va lo :=
  ⟨by omega, h, fun j hj => absurd hj (Nat.not_lt_zero j), fun j hj => absurd hj (Nat.not_lt_zero j), fun j hj => absurd hj (Nat.not_lt_zero j)⟩
theorem Qkept_cg {wma' spa' hea' sna' be' va' lo' : Nat → Nat} (h : Qkept zs zh zo mn zn za zl ml cl nc air kp wma spa hea sna be va lo) (h1 : ∀ j, 2 ≤ j → wma' j = wma j ∧ spa' j = spa j ∧ hea' j = hea j ∧ sna' j = sna j) (h2 : ∀ j, 16 ≤ j → be' j = be j ∧ va' j = va j ∧ lo' j = lo j) : Qkept zs zh zo mn zn za zl ml cl nc air kp wma' spa' hea' sna' be' va' lo' := by
  obtain ⟨k1, k2, k3, k4, k5⟩ := h
  refine ⟨k1, k2, fun j hj => ?_, k4, fun j hj => ⟨(k5 j hj).1, fun w hw => ?_⟩⟩
  · obtain ⟨e1, e2, e3, e4⟩ := h1 (2 + j) (by omega)
    rw [e1, e2, e3, e4]; exact k3 j hj
  · obtain ⟨e1, e2, e3⟩ := h2 (8 * (2 + j) + w) (by omega)
    rw [e1, e2, e3]; exact (k5 j hj).2 w hw
theorem Qkept_less (h : Qkept zs zh zo mn zn za zl ml cl nc air kp wma spa hea sna be va lo) : Qkept zs zh zo mn zn za zl ml cl nc air (kp - 1) wma spa hea sna be va lo := by
  obtain ⟨k1, k2, k3, k4, k5⟩ := h
  exact ⟨by omega, k2, fun j hj => k3 j (by omega), fun j hj => k4 j (by omega), fun j hj => k5 j (by omega)⟩
theorem Qkept_push {wd : Nat → Nat} (h : Qkept zs zh zo mn zn za zl ml cl nc air kp wma spa hea sna be va lo) (hk : kp < 2) (hb : nc ≤ 4 ∧ wma 0 ≤ 8 ∧ spa 0 ≤ 40 ∧ hea 0 ≤ 40 ∧ sna 0 < 2147483648) (hd : okD wd (wma 0)) (hr : relD be va lo wd (wma 0)) : Qkept (va_up zs kp (spa 0)) (va_up zh kp (hea 0)) (va_up zo kp (sna 0)) (va_up mn kp (wma 0)) (va_up zn kp nc) (va_up za kp air) (va_up zl kp (cpN (zl kp) cl (3 * nc))) (va_up ml kp (cpN (ml kp) wd (3 * wma 0))) cl nc air (kp + 1) (upN wma (1 + (kp + 1)) (wma 0)) (upN spa (1 + (kp + 1)) (spa 0)) (upN hea (1 + (kp + 1)) (hea 0)) (upN sna (1 + (kp + 1)) (sna 0)) (cp8 be 0 (1 + (kp + 1)) 8) (cp8 va 0 (1 + (kp + 1)) 8) (cp8 lo 0 (1 + (kp + 1)) 8) := by
  obtain ⟨k1, k2, k3, k4, k5⟩ := h
  rw [show 1 + (kp + 1) = 2 + kp from by omega]
  refine ⟨by omega, fun j hj => ?_, fun j hj => ?_, fun j hj q hq => ?_, fun j hj => ⟨?_, fun w hw => ?_⟩⟩
  · by_cases e : j = kp
    · rw [e, up_s, up_s]; omega
    · rw [up_n e, up_n e]; exact k2 j hj
  · by_cases e : j = kp
    · subst e
      simp only [up_s, upN_s]
      exact ⟨⟨by trivial, by trivial, by trivial, by trivial, by trivial, by trivial⟩, by omega, by omega, by omega⟩
    · simp only [up_n e]
      rw [upN_n (by omega), upN_n (by omega), upN_n (by omega), upN_n (by omega)]
      exact k3 j (by omega)
  · by_cases e : j = kp
    · rw [e, up_s, cpN_lt hq]
    · rw [up_n e]; exact k4 j (by omega) q hq
  · by_cases e : j = kp
    · rw [e, up_s, up_s]; exact okD_same (sameC_cp (ml kp) wd (wma 0)) hd
    · rw [up_n e, up_n e]; exact (k5 j (by omega)).1
  · by_cases e : j = kp
    · rw [e, up_s] at hw
      rw [e, up_s, cpN_lt (by omega), cpN_lt (by omega), cpN_lt (by omega)]
      have hc : 8 * (2 + kp) ≤ 8 * (2 + kp) + w ∧ 8 * (2 + kp) + w < 8 * (2 + kp) + 8 := by omega
      rw [show cp8 be 0 (2 + kp) 8 (8 * (2 + kp) + w) = be (8 * 0 + (8 * (2 + kp) + w - 8 * (2 + kp))) from if_pos hc, show cp8 va 0 (2 + kp) 8 (8 * (2 + kp) + w) = va (8 * 0 + (8 * (2 + kp) + w - 8 * (2 + kp))) from if_pos hc, show cp8 lo 0 (2 + kp) 8 (8 * (2 + kp) + w) = lo (8 * 0 + (8 * (2 + kp) + w - 8 * (2 + kp))) from if_pos hc, show 8 * 0 + (8 * (2 + kp) + w - 8 * (2 + kp)) = w from by omega]
      exact hr w hw
    · rw [up_n e] at hw
      rw [up_n e]
      have hm := (k2 j (by omega)).2
      have hc : ¬ (8 * (2 + kp) ≤ 8 * (2 + j) + w ∧ 8 * (2 + j) + w < 8 * (2 + kp) + 8) := by omega
      rw [show cp8 be 0 (2 + kp) 8 (8 * (2 + j) + w) = be (8 * (2 + j) + w) from if_neg hc, show cp8 va 0 (2 + kp) 8 (8 * (2 + j) + w) = va (8 * (2 + j) + w) from if_neg hc, show cp8 lo 0 (2 + kp) 8 (8 * (2 + j) + w) = lo (8 * (2 + j) + w) from if_neg hc]
      exact (k5 j (by omega)).2 w hw
/-- the latest of KEPT -/
theorem Qkept_top (h : Qkept zs zh zo mn zn za zl ml cl nc air kp wma spa hea sna be va lo) (hk : 1 ≤ kp) : cpN cl (zl (kp - 1)) (3 * zn (kp - 1)) = cl ∧ zn (kp - 1) = nc ∧ mn (kp - 1) = wma (1 + kp) ∧ zs (kp - 1) = spa (1 + kp) ∧ zh (kp - 1) = hea (1 + kp) ∧ za (kp - 1) = air ∧ zo (kp - 1) = sna (1 + kp) := by
  obtain ⟨k1, k2, k3, k4, k5⟩ := h
  obtain ⟨⟨a1, a2, a3, a4, a5, a6⟩, -⟩ := k3 (kp - 1) (by omega)
  rw [show 2 + (kp - 1) = 1 + kp from by omega] at a1 a2 a3 a4
  refine ⟨?_, a5, a4, a1, a2, a6, a3⟩
  funext q; unfold cpN
  split
  · exact k4 (kp - 1) (by omega) q (by rw [← a5]; assumption)
  · rfl
theorem Qcan_back {fm pq dq kq ai wd : Nat → Nat} (hc : Qcan fm pq dq kq ai wma be va lo spa hea sna cl wd) (h : Qkept zs zh zo mn zn za zl ml cl (fm 0) (ai 0) kp wma spa hea sna be va lo) (hk : 1 ≤ kp) : Qcan fm pq dq kq ai (upN wma 0 (wma (1 + kp))) (cp8 be (1 + kp) 0 8) (cp8 va (1 + kp) 0 8) (cp8 lo (1 + kp) 0 8) (upN spa 0 (spa (1 + kp))) (upN hea 0 (hea (1 + kp))) (upN sna 0 (sna (1 + kp))) cl (cpN wd (ml (kp - 1)) (3 * wma (1 + kp))) := by
  obtain ⟨⟨h1, h2, h3, h4, h5, h6⟩, h7, h8, h9, h10⟩ := hc
  obtain ⟨k1, k2, k3, k4, k5⟩ := h
  obtain ⟨⟨a1, a2, a3, a4, a5, a6⟩, b1, b2, b3⟩ := k3 (kp - 1) (by omega)
  obtain ⟨c1, c2⟩ := k5 (kp - 1) (by omega)
  have hm := (k2 (kp - 1) (by omega)).2
  rw [show 2 + (kp - 1) = 1 + kp from by omega] at a1 a2 a3 a4 c2
  refine ⟨⟨h1, by rw [upN_s]; omega, h3, by rw [upN_s]; omega, by rw [upN_s]; omega, by rw [upN_s]; omega⟩, h7, ?_, h9, ?_⟩
  · rw [upN_s]; refine okD_same (sameC_cp wd (ml (kp - 1)) (wma (1 + kp))) ?_
    rw [← a4]; exact c1
  · rw [upN_s]
    intro w hw
    rw [cpN_lt (by omega), cpN_lt (by omega), cpN_lt (by omega)]
    have h8 : 8 * 0 ≤ w ∧ w < 8 * 0 + 8 := by omega
    rw [show cp8 be (1 + kp) 0 8 w = be (8 * (1 + kp) + (w - 8 * 0)) from if_pos h8, show cp8 va (1 + kp) 0 8 w = va (8 * (1 + kp) + (w - 8 * 0)) from if_pos h8, show cp8 lo (1 + kp) 0 8 w = lo (8 * (1 + kp) + (w - 8 * 0)) from if_pos h8, show w - 8 * 0 = w from by omega]
    exact c2 w (by omega)
end QK
/-! Searches. -/
theorem first_stop (P : Nat → Prop) (N : Nat) : ∃ t, t ≤ N ∧ (∀ q, 1 ≤ q → q ≤ t → P q) ∧ (t < N → ¬ P (t + 1)) := by
  induction N with
  | zero => exact ⟨0, Nat.le_refl 0, fun q h1 h2 => absurd h1 (by omega), fun h => absurd h (Nat.not_lt_zero 0)⟩
  | succ N ih =>
    obtain ⟨t, h1, h2, h3⟩ := ih
    by_cases e : t = N
    · by_cases hp : P (N + 1)
      · refine ⟨N + 1, Nat.le_refl _, fun q q1 q2 => ?_, fun h => absurd h (Nat.lt_irrefl _)⟩
        by_cases eq : q = N + 1
        · rw [eq]; exact hp
        · exact h2 q q1 (by omega)
      · exact ⟨t, by omega, h2, fun _ => by rw [e]; exact hp⟩
    · exact ⟨t, by omega, h2, fun _ => h3 (by omega)⟩
theorem first_true (p : Nat → Bool) (N : Nat) : (∃ d, d < N ∧ p d = true ∧ ∀ q, q < d → p q = false) ∨ (∀ d, d < N → p d = false) := by
  induction N with
  | zero => exact Or.inr (fun d hd => absurd hd (Nat.not_lt_zero d))
  | succ N ih =>
    rcases ih with ⟨d, h1, h2, h3⟩ | h
    · exact Or.inl ⟨d, by omega, h2, h3⟩
    · cases hp : p N with
      | true => exact Or.inl ⟨N, by omega, hp, h⟩
      | false =>
        refine Or.inr (fun d hd => ?_)
        by_cases e : d = N
        · rw [e]; exact hp
        · exact h d (by omega)
theorem first_two (p : Nat → Nat → Bool) (F N : Nat) : (∃ f y, f < F ∧ y < N ∧ p f y = true ∧ (∀ g, g < f → ∀ y, y < N → p g y = false) ∧ ∀ z, z < y → p f z = false) ∨ (∀ f, f < F → ∀ y, y < N → p f y = false) := by
  induction F with
  | zero => exact Or.inr (fun d hd => absurd hd (Nat.not_lt_zero d))
  | succ F ih =>
    rcases ih with ⟨f, y, h1, h2, h3, h4, h5⟩ | h
    · exact Or.inl ⟨f, y, by omega, h2, h3, h4, h5⟩
    · rcases first_true (p F) N with ⟨y, h1, h2, h3⟩ | h2
      · exact Or.inl ⟨F, y, by omega, h1, h2, h, h3⟩
      · refine Or.inr (fun f hf => ?_)
        by_cases e : f = F
        · rw [e]; exact h2
        · exact h f (by omega)
/-- STOOD, from the lowest up and from the highest down -/
def jn2 (a b : Nat × Int) : Nat × Int := (a.1 + b.1, if a.1 = 0 then b.2 else a.2)
theorem stM_z (p : Nat → Bool) (n : Nat) : (stM p n).1 = 0 → (stM p n).2 = -4 := by
  induction n with
  | zero => intro _; rfl
  | succ n ih =>
    cases h : p n with
    | true => rw [stM_t h]; intro h2; dsimp only at h2; omega
    | false => rw [stM_f h]; exact ih
theorem st_rv_step (p : Nat → Bool) (n : Nat) (hn : n ≤ 40) : jn2 (stM p (n + 1)) (rvM p (40 - n)) = jn2 (stM p n) (rvM p (40 - n + 1)) := by
  have e : 40 - (40 - n) = n := by omega
  cases h : p n with
  | true =>
    rw [stM_t h, rvM_t (m := 40 - n) (by rw [e]; exact h)]
    unfold jn2
    dsimp only
    refine Prod.ext (by dsimp only; omega) ?_
    dsimp only
    rw [if_neg (by omega)]
    by_cases h0 : (stM p n).1 = 0
    · rw [if_pos h0, if_pos h0]; omega
    · rw [if_neg h0, if_neg h0]
  | false => rw [stM_f h, rvM_f (m := 40 - n) (by rw [e]; exact h)]
theorem st_rv_all (p : Nat → Bool) : ∀ n, n ≤ 41 → jn2 (stM p n) (rvM p (41 - n)) = rvM p 41 := by
  intro n
  induction n with
  | zero =>
    intro _
    show jn2 (0, -4) (rvM p 41) = rvM p 41
    unfold jn2
    dsimp only
    rw [if_pos rfl, Nat.zero_add]
  | succ n ih =>
    intro h
    rw [show 41 - (n + 1) = 40 - n from by omega, st_rv_step p n (by omega), show 40 - n + 1 = 41 - n from by omega]
    exact ih (by omega)
theorem st_rv (p : Nat → Bool) : rvM p 41 = stM p 41 := by
  rw [← st_rv_all p 41 (Nat.le_refl _)]
  show jn2 (stM p 41) (0, -4) = stM p 41
  unfold jn2
  dsimp only
  refine Prod.ext (by dsimp only; omega) ?_
  dsimp only
  by_cases h0 : (stM p 41).1 = 0
  · rw [if_pos h0, stM_z p 41 h0]
  · rw [if_neg h0]
theorem bsM_or (ok : Nat → Bool) (n : Nat) : (bsM ok n).1 = -4 ∨ ∃ sc, sc < n ∧ (bsM ok n).1 = (sc : Int) := by
  induction n with
  | zero => exact Or.inl rfl
  | succ s ih =>
    by_cases h : wiM s < (bsM ok s).2 ∧ ok s = true
    · rw [bsM_t h.1 h.2]; exact Or.inr ⟨s, by omega, rfl⟩
    · rw [show bsM ok (s + 1) = bsM ok s from if_neg h]
      rcases ih with h2 | ⟨sc, h2, h3⟩
      · exact Or.inl h2
      · exact Or.inr ⟨sc, by omega, h3⟩
