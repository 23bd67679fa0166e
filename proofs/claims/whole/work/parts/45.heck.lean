/-! HECKLER: the least that is reckoned is the least that is found by trying. -/
def posS (S : Snd) : Prop := ∀ j, S.2 j ≠ 0 → 1 ≤ S.1 j
theorem posS_quiet : posS quietM := fun _ h => absurd rfl h
theorem posS_come {S : Snd} {b : Nat} {z : Int} {v : Nat} (h : posS S) : posS (comeM S b z v) := by
  by_cases hc : z ≤ 0 ∨ z < (S.1 b : Int) ∨ 150 ≤ b
  · rw [show comeM S b z v = S from if_pos hc]; exact h
  · rw [show comeM S b z v = (upN S.1 b z.toNat, upN S.2 b (if z = (S.1 b : Int) ∧ ¬ S.2 b = v then 8 else v)) from if_neg hc]
    intro j hj
    by_cases e : j = b
    · subst e
      show 1 ≤ upN S.1 j z.toNat j
      rw [upN_s]; omega
    · have hj2 : upN S.2 b (if z = (S.1 b : Int) ∧ ¬ S.2 b = v then 8 else v) j ≠ 0 := hj
      rw [upN_n e] at hj2
      show 1 ≤ upN S.1 b z.toNat j
      rw [upN_n e]; exact h j hj2
theorem posS_carry {t v lv : Nat} (L : List (Nat × Nat)) : ∀ S : Snd, posS S → posS (carryM S t v lv L) := by
  unfold carryM
  induction L with
  | nil => intro S h; exact h
  | cons a L ih => intro S h; exact ih _ (posS_come h)
theorem posS_play {S : Snd} (h : posS S) {on : Nat → Bool} {wd : Nat → Nat} {L : List (Nat × Nat)} {d : Nat} : ∀ w, posS (playM S on wd L d w) := by
  intro w
  induction w with
  | zero => exact h
  | succ w ih =>
    cases ho : on w with
    | true => rw [playM_t ho]; exact posS_carry L _ ih
    | false => rw [playM_f ho]; exact ih
theorem comeP_keep {p : Nat × Nat} {z : Int} {v : Nat} (h : z ≤ 0 ∨ z < (p.1 : Int)) : comeP p z v = p := if_pos h
theorem comeP_same {p : Nat × Nat} {z : Int} {v : Nat} (h : p.2 = v) : (comeP p z v).2 = v := by
  by_cases hc : z ≤ 0 ∨ z < (p.1 : Int)
  · rw [comeP_keep hc]; exact h
  · rw [show comeP p z v = (z.toNat, if z = (p.1 : Int) ∧ ¬ p.2 = v then 8 else v) from if_neg hc]
    show (if z = (p.1 : Int) ∧ ¬ p.2 = v then 8 else v) = v
    rw [if_neg (fun hh => hh.2 h)]
theorem comeP_new {p : Nat × Nat} {z : Int} {v V : Nat} (hv : ¬ V = v) (h8 : V ≠ 8) (hc : ¬ (z ≤ 0 ∨ z < (p.1 : Int))) : (comeP p z v).2 ≠ V := by
  rw [show comeP p z v = (z.toNat, if z = (p.1 : Int) ∧ ¬ p.2 = v then 8 else v) from if_neg hc]
  show (if z = (p.1 : Int) ∧ ¬ p.2 = v then 8 else v) ≠ V
  split
  · exact fun e => h8 e.symm
  · exact fun e => hv e.symm
theorem comeP_off {p : Nat × Nat} {z : Int} {v V : Nat} (h : p.2 ≠ V) (hv : ¬ V = v) (h8 : V ≠ 8) : (comeP p z v).2 ≠ V := by
  by_cases hc : z ≤ 0 ∨ z < (p.1 : Int)
  · rw [comeP_keep hc]; exact h
  · exact comeP_new hv h8 hc
theorem carryP_c (p : Nat × Nat) (b t v lv : Nat) (a : Nat × Nat) (L : List (Nat × Nat)) : carryP p b t v lv (a :: L) = carryP (if t + a.1 = b then comeP p ((lv : Int) - (a.2 : Int)) v else p) b t v lv L := rfl
theorem carryP_same {b t v lv : Nat} (L : List (Nat × Nat)) : ∀ p : Nat × Nat, p.2 = v → (carryP p b t v lv L).2 = v := by
  induction L with
  | nil => intro p h; exact h
  | cons a L ih =>
    intro p h
    rw [carryP_c]
    refine ih _ ?_
    by_cases e : t + a.1 = b
    · rw [if_pos e]; exact comeP_same h
    · rw [if_neg e]; exact h
theorem carryP_off {b t v lv V : Nat} (hv : ¬ V = v) (h8 : V ≠ 8) (L : List (Nat × Nat)) : ∀ p : Nat × Nat, p.2 ≠ V → (carryP p b t v lv L).2 ≠ V := by
  induction L with
  | nil => intro p h; exact h
  | cons a L ih =>
    intro p h
    rw [carryP_c]
    refine ih _ ?_
    by_cases e : t + a.1 = b
    · rw [if_pos e]; exact comeP_off h hv h8
    · rw [if_neg e]; exact h
theorem carryP_iff {b t v lv V : Nat} (hv : ¬ V = v) (h8 : V ≠ 8) (L : List (Nat × Nat)) : ∀ p : Nat × Nat, p.2 = V → 1 ≤ p.1 → ((carryP p b t v lv L).2 ≠ V ↔ ∃ y, y ∈ L ∧ t + y.1 = b ∧ p.1 + y.2 ≤ lv) := by
  induction L with
  | nil =>
    intro p h _
    exact ⟨fun hh => absurd h hh, fun hh => by obtain ⟨y, hy, _⟩ := hh; exact absurd hy List.not_mem_nil⟩
  | cons a L ih =>
    intro p h h1
    rw [carryP_c]
    by_cases hc : t + a.1 = b ∧ p.1 + a.2 ≤ lv
    · rw [if_pos hc.1]
      refine ⟨fun _ => ⟨a, List.mem_cons_self, hc⟩, fun _ => ?_⟩
      exact carryP_off hv h8 L _ (comeP_new hv h8 (by omega))
    · have e : (if t + a.1 = b then comeP p ((lv : Int) - (a.2 : Int)) v else p) = p := by
        by_cases e : t + a.1 = b
        · rw [if_pos e]; exact comeP_keep (by omega)
        · rw [if_neg e]
      rw [e, ih p h h1]
      constructor
      · intro hh
        obtain ⟨y, hy, h2⟩ := hh
        exact ⟨y, List.mem_cons_of_mem _ hy, h2⟩
      · intro hh
        obtain ⟨y, hy, h2⟩ := hh
        rcases List.mem_cons.mp hy with h3 | h3
        · rw [h3] at h2; exact absurd h2 hc
        · exact ⟨y, h3, h2⟩
/-- the least of those that C tells, -4 if there is none -/
def isMin (r : Int) (C : Int → Prop) : Prop := (r = -4 ∧ ∀ c, ¬ C c) ∨ (C r ∧ ∀ c, C c → r ≤ c)
theorem isMin_cg {r : Int} {C C' : Int → Prop} (h : isMin r C) (e : ∀ c, C c ↔ C' c) : isMin r C' := by
  rcases h with ⟨h1, h2⟩ | ⟨h1, h2⟩
  · exact Or.inl ⟨h1, fun c hc => h2 c ((e c).mpr hc)⟩
  · exact Or.inr ⟨(e r).mp h1, fun c hc => h2 c ((e c).mpr hc)⟩
def cnd1 (b l0 : Nat) (y : Nat × Nat) (c : Int) : Prop := (1 ≤ l0 + y.2 ∧ l0 + y.2 ≤ 60) ∧ (0 ≤ (b : Int) - (y.1 : Int) ∧ (b : Int) - (y.1 : Int) ≤ 60) ∧ c = (((l0 + y.2) * 150 : Nat) : Int) + ((b : Int) - (y.1 : Int))
def cndL (b l0 : Nat) (L : List (Nat × Nat)) (c : Int) : Prop := ∃ y, y ∈ L ∧ cnd1 b l0 y c
theorem cnd1_pos {b l0 : Nat} {y : Nat × Nat} {c : Int} (h : cnd1 b l0 y c) : 0 ≤ c := by
  obtain ⟨h1, h2, h3⟩ := h
  omega
theorem laStep_min {b l0 : Nat} {least : Int} {y : Nat × Nat} {C : Int → Prop} (hC : ∀ c, C c → 0 ≤ c) (h : isMin least C) : isMin (laStep b l0 least y) (fun c => C c ∨ cnd1 b l0 y c) := by
  obtain ⟨y1, y2⟩ := y
  by_cases hc : (1 ≤ l0 + y2 ∧ l0 + y2 ≤ 60) ∧ (0 ≤ (b : Int) - (y1 : Int) ∧ (b : Int) - (y1 : Int) ≤ 60) ∧ (least = -4 ∨ (((l0 + y2) * 150 : Nat) : Int) + ((b : Int) - (y1 : Int)) < least)
  · rw [laStep_t hc]
    refine Or.inr ⟨Or.inr ⟨hc.1, hc.2.1, rfl⟩, fun c h2 => ?_⟩
    rcases h2 with h2 | ⟨_, _, h2⟩
    · rcases h with ⟨h3, h4⟩ | ⟨h3, h4⟩
      · exact absurd h2 (h4 c)
      · have h5 := h4 c h2
        have h6 := hC least h3
        omega
    · omega
  · rw [laStep_f hc]
    rcases h with ⟨h3, h4⟩ | ⟨h3, h4⟩
    · refine Or.inl ⟨h3, fun c h2 => ?_⟩
      rcases h2 with h2 | ⟨h5, h6, h2⟩
      · exact h4 c h2
      · exact hc ⟨h5, h6, Or.inl h3⟩
    · refine Or.inr ⟨Or.inl h3, fun c h2 => ?_⟩
      rcases h2 with h2 | ⟨h5, h6, h2⟩
      · exact h4 c h2
      · have h7 : ¬ (least = -4 ∨ (((l0 + y2) * 150 : Nat) : Int) + ((b : Int) - (y1 : Int)) < least) := fun hh => hc ⟨h5, h6, hh⟩
        dsimp only at h2
        omega
theorem laM_min (b l0 : Nat) (L : List (Nat × Nat)) : ∀ (least : Int) (C : Int → Prop), (∀ c, C c → 0 ≤ c) → isMin least C → isMin (laM b l0 L least) (fun c => C c ∨ cndL b l0 L c) := by
  induction L with
  | nil =>
    intro least C _ h
    refine isMin_cg h (fun c => ⟨Or.inl, fun hh => ?_⟩)
    rcases hh with hh | ⟨y, hy, _⟩
    · exact hh
    · exact absurd hy List.not_mem_nil
  | cons a L ih =>
    intro least C hC h
    have h1 := ih (laStep b l0 least a) (fun c => C c ∨ cnd1 b l0 a c) (fun c hc => by
      rcases hc with hc | hc
      · exact hC c hc
      · exact cnd1_pos hc) (laStep_min hC h)
    refine isMin_cg h1 (fun c => ⟨fun hh => ?_, fun hh => ?_⟩)
    · rcases hh with (hh | hh) | ⟨y, hy, hh⟩
      · exact Or.inl hh
      · exact Or.inr ⟨a, List.mem_cons_self, hh⟩
      · exact Or.inr ⟨y, List.mem_cons_of_mem _ hy, hh⟩
    · rcases hh with hh | ⟨y, hy, hh⟩
      · exact Or.inl (Or.inl hh)
      · rcases List.mem_cons.mp hy with e | e
        · rw [e] at hh; exact Or.inl (Or.inr hh)
        · exact Or.inr ⟨y, e, hh⟩
def cndH (S : Snd) (clear v b0 : Nat) (wd : Nat → Nat) (L : List (Nat × Nat)) (n : Nat) (c : Int) : Prop := ∃ w, w < n ∧ (onS clear w = true ∧ ¬ wd (3 * w + 1) = v) ∧ cndL (wd (3 * w + 0) + b0) (S.1 (wd (3 * w + 0) + b0)) L c
theorem lhM_min (S : Snd) (clear v b0 : Nat) (wd : Nat → Nat) (L : List (Nat × Nat)) (n : Nat) : isMin (lhM S clear v b0 wd L n) (cndH S clear v b0 wd L n) := by
  induction n with
  | zero => exact Or.inl ⟨rfl, fun c hc => by obtain ⟨w, hw, _⟩ := hc; exact absurd hw (Nat.not_lt_zero w)⟩
  | succ n ih =>
    by_cases h : onS clear n = true ∧ ¬ wd (3 * n + 1) = v
    · rw [lhM_t h.1 h.2]
      have h1 := laM_min (wd (3 * n + 0) + b0) (S.1 (wd (3 * n + 0) + b0)) L _ _ (fun c hc => by
        obtain ⟨w, _, _, y, _, h2⟩ := hc
        exact cnd1_pos h2) ih
      refine isMin_cg h1 (fun c => ⟨fun hh => ?_, fun hh => ?_⟩)
      · rcases hh with ⟨w, hw, hh⟩ | hh
        · exact ⟨w, by omega, hh⟩
        · exact ⟨n, by omega, h, hh⟩
      · obtain ⟨w, hw, h2, h3⟩ := hh
        by_cases e : w = n
        · rw [e] at h3; exact Or.inr h3
        · exact Or.inl ⟨w, by omega, h2, h3⟩
    · rw [show lhM S clear v b0 wd L (n + 1) = lhM S clear v b0 wd L n from if_neg h]
      refine isMin_cg ih (fun c => ⟨fun hh => ?_, fun hh => ?_⟩)
      · obtain ⟨w, hw, hh⟩ := hh
        exact ⟨w, by omega, hh⟩
      · obtain ⟨w, hw, h2, h3⟩ := hh
        by_cases e : w = n
        · rw [e] at h2; exact absurd h2 h
        · exact ⟨w, by omega, h2, h3⟩
section HE
variable {H : Snd} {wd : Nat → Nat} {nw y z v : Nat} {L2 : List (Nat × Nat)}
theorem hit_of {w : Nat} (h : hitM H wd w 0 y z = true) : z < wd (3 * w + 2) ∧ wd (3 * w + 0) + 0 + y < 150 ∧ H.2 (wd (3 * w + 0) + 0 + y) = wd (3 * w + 1) := by
  unfold hitM at h
  rw [Bool.and_eq_true] at h
  exact ⟨of_decide_eq_true h.1, of_decide_eq_true h.2⟩
theorem clr_on (w : Nat) (hw : w < nw) : onS (hitS H wd 0 y z nw) w = hitM H wd w 0 y z := by
  rw [onS_tb]; unfold hitS; rw [bitsM_tb, decide_eq_true hw, Bool.true_and]
theorem spo_c (hn : nw ≤ 8) (hd : okD wd nw) (hp : posS H) (lv t : Nat) : spoB H (hitS H wd 0 y z nw) wd nw y z L2 v lv t = true ↔ ∃ w, w < nw ∧ (onS (hitS H wd 0 y z nw) w = true ∧ ¬ wd (3 * w + 1) = v) ∧ ∃ a, a ∈ L2 ∧ t + a.1 = wd (3 * w + 0) + y ∧ H.1 (wd (3 * w + 0) + y) + a.2 ≤ lv := by
  have key : ∀ w, w < nw → hitM H wd w 0 y z = true → (hitM (carryM H t v lv L2) wd w 0 y z = false ↔ ¬ wd (3 * w + 1) = v ∧ ∃ a, a ∈ L2 ∧ t + a.1 = wd (3 * w + 0) + y ∧ H.1 (wd (3 * w + 0) + y) + a.2 ≤ lv) := by
    intro w hw hh
    obtain ⟨h1, h2, h3⟩ := hit_of hh
    rw [Nat.add_zero] at h2 h3
    obtain ⟨d1, d2, d3, d4, d5⟩ := hd w hw
    have e := carryM_at (b := wd (3 * w + 0) + y) (t := t) (v := v) (l := lv) h2 L2 H
    have e2 : (carryM H t v lv L2).2 (wd (3 * w + 0) + y) = (carryP (H.1 (wd (3 * w + 0) + y), H.2 (wd (3 * w + 0) + y)) (wd (3 * w + 0) + y) t v lv L2).2 := by rw [← e]
    have hit_f : hitM (carryM H t v lv L2) wd w 0 y z = false ↔ (carryM H t v lv L2).2 (wd (3 * w + 0) + y) ≠ wd (3 * w + 1) := by
      constructor
      · intro hf he
        rw [hitM_t h1 (by rw [Nat.add_zero]; exact h2) (by rw [Nat.add_zero]; exact he)] at hf
        exact absurd hf (by decide)
      · intro hf
        exact hitM_f3 (by rw [Nat.add_zero]; exact hf)
    rw [hit_f, e2]
    by_cases hv : wd (3 * w + 1) = v
    · refine ⟨fun hf => absurd ((carryP_same L2 _ (by dsimp only; rw [h3, hv])).trans hv.symm) hf, fun hf => absurd hv hf.1⟩
    · rw [carryP_iff hv (by omega) L2 _ h3 (hp _ (by rw [h3]; omega))]
      exact ⟨fun hf => ⟨hv, hf⟩, fun hf => hf.2⟩
  unfold spoB
  rw [decide_eq_true_iff, show hitS (carryM H t v lv L2) wd 0 y z nw = bitsM (fun w => hitM (carryM H t v lv L2) wd w 0 y z) nw from rfl, and_not_0 (a := hitS H wd 0 y z nw) hn (bitsM_lt _ nw)]
  constructor
  · intro hh
    apply Classical.byContradiction
    intro hno
    refine hh (fun w hw hb => ?_)
    cases hx : hitM (carryM H t v lv L2) wd w 0 y z with
    | true => rfl
    | false =>
      have hb2 : onS (hitS H wd 0 y z nw) w = true := by rw [onS_tb]; exact hb
      rw [clr_on w hw] at hb2
      have hk := (key w hw hb2).mp hx
      exact absurd ⟨w, hw, ⟨by rw [clr_on w hw]; exact hb2, hk.1⟩, hk.2⟩ hno
  · intro hh hall
    obtain ⟨w, hw, ⟨hb, hv⟩, ha⟩ := hh
    have hx := hall w hw (by rw [← onS_tb]; exact hb)
    rw [clr_on w hw] at hb
    rw [(key w hw hb).mpr ⟨hv, ha⟩] at hx
    exact absurd hx (by decide)
theorem on_loud (hd : okD wd nw) (hp : posS H) {w : Nat} (hw : w < nw) (h : onS (hitS H wd 0 y z nw) w = true) : 1 ≤ H.1 (wd (3 * w + 0) + y) := by
  rw [clr_on w hw] at h
  obtain ⟨h1, h2, h3⟩ := hit_of h
  rw [Nat.add_zero] at h3
  have h4 := (hd w hw).2.1
  exact hp _ (by rw [h3]; omega)
theorem heckle_some (hn : nw ≤ 8) (hd : okD wd nw) (hp : posS H) {l0 t0 : Nat} (h1 : 1 ≤ l0 ∧ l0 ≤ 60 ∧ t0 ≤ 60) (ht : spoB H (hitS H wd 0 y z nw) wd nw y z L2 v l0 t0 = true) (hb1 : ∀ q, 1 ≤ q → q < l0 → ∀ t, t ≤ 60 → spoB H (hitS H wd 0 y z nw) wd nw y z L2 v q t = false) (hb2 : ∀ t, t < t0 → spoB H (hitS H wd 0 y z nw) wd nw y z L2 v l0 t = false) : lhM H (hitS H wd 0 y z nw) v y wd L2 nw = ((l0 * 150 + t0 : Nat) : Int) := by
  have hm := lhM_min H (hitS H wd 0 y z nw) v y wd L2 nw
  obtain ⟨w, hw, ⟨hc, hv⟩, a, ha, e1, e2⟩ := (spo_c hn hd hp l0 t0).mp ht
  have hp1 := on_loud hd hp hw hc
  have e3 : H.1 (wd (3 * w + 0) + y) + a.2 = l0 := by
    apply Classical.byContradiction
    intro hne
    have h2 := (spo_c (L2 := L2) (v := v) hn hd hp (H.1 (wd (3 * w + 0) + y) + a.2) t0).mpr ⟨w, hw, ⟨hc, hv⟩, a, ha, e1, Nat.le_refl _⟩
    rw [hb1 _ (by omega) (by omega) t0 (by omega)] at h2
    exact absurd h2 (by decide)
  have hcand : cndH H (hitS H wd 0 y z nw) v y wd L2 nw ((l0 * 150 + t0 : Nat) : Int) := ⟨w, hw, ⟨hc, hv⟩, a, ha, by rw [e3]; omega, by omega, by rw [e3]; omega⟩
  rcases hm with ⟨_, hno⟩ | ⟨hr, hmin⟩
  · exact absurd hcand (hno _)
  · have hle := hmin _ hcand
    obtain ⟨w2, hw2, ⟨hc2, hv2⟩, a2, ha2, ⟨v1, v2⟩, ⟨v3, v4⟩, er⟩ := hr
    obtain ⟨t1, ht1⟩ : ∃ t1 : Nat, (t1 : Int) = ((wd (3 * w2 + 0) + y : Nat) : Int) - (a2.1 : Int) := ⟨(((wd (3 * w2 + 0) + y : Nat) : Int) - (a2.1 : Int)).toNat, by omega⟩
    have s1 := (spo_c (L2 := L2) (v := v) hn hd hp (H.1 (wd (3 * w2 + 0) + y) + a2.2) t1).mpr ⟨w2, hw2, ⟨hc2, hv2⟩, a2, ha2, by omega, Nat.le_refl _⟩
    have hl : l0 ≤ H.1 (wd (3 * w2 + 0) + y) + a2.2 := by
      apply Classical.byContradiction
      intro hne
      rw [hb1 _ v1 (by omega) t1 (by omega)] at s1
      exact absurd s1 (by decide)
    rw [er] at hle ⊢
    by_cases e : H.1 (wd (3 * w2 + 0) + y) + a2.2 = l0
    · have ht2 : t0 ≤ t1 := by
        apply Classical.byContradiction
        intro hne
        rw [e, hb2 t1 (by omega)] at s1
        exact absurd s1 (by decide)
      rw [e] at hle ⊢
      omega
    · omega
theorem heckle_none (hn : nw ≤ 8) (hd : okD wd nw) (hp : posS H) (hb1 : ∀ q, 1 ≤ q → q ≤ 60 → ∀ t, t ≤ 60 → spoB H (hitS H wd 0 y z nw) wd nw y z L2 v q t = false) : lhM H (hitS H wd 0 y z nw) v y wd L2 nw = -4 := by
  rcases lhM_min H (hitS H wd 0 y z nw) v y wd L2 nw with ⟨h, _⟩ | ⟨hr, _⟩
  · exact h
  · obtain ⟨w2, hw2, ⟨hc2, hv2⟩, a2, ha2, ⟨v1, v2⟩, ⟨v3, v4⟩, er⟩ := hr
    obtain ⟨t1, ht1⟩ : ∃ t1 : Nat, (t1 : Int) = ((wd (3 * w2 + 0) + y : Nat) : Int) - (a2.1 : Int) := ⟨(((wd (3 * w2 + 0) + y : Nat) : Int) - (a2.1 : Int)).toNat, by omega⟩
    have s1 := (spo_c (L2 := L2) (v := v) hn hd hp (H.1 (wd (3 * w2 + 0) + y) + a2.2) t1).mpr ⟨w2, hw2, ⟨hc2, hv2⟩, a2, ha2, by omega, Nat.le_refl _⟩
    rw [hb1 _ v1 v2 t1 (by omega)] at s1
    exact absurd s1 (by decide)
end HE
theorem Qcan_cg {fm pq dq kq ai wma be va lo spa hea sna cl wd wma' be' va' lo' spa' hea' sna' : Nat → Nat} (h : Qcan fm pq dq kq ai wma be va lo spa hea sna cl wd) (h1 : wma' 0 = wma 0 ∧ spa' 0 = spa 0 ∧ hea' 0 = hea 0 ∧ sna' 0 = sna 0) (h2 : ∀ j, j < 8 → be' j = be j ∧ va' j = va j ∧ lo' j = lo j) : Qcan fm pq dq kq ai wma' be' va' lo' spa' hea' sna' cl wd := by
  obtain ⟨⟨a1, a2, a3, a4, a5, a6⟩, b1, b2, b3, b4⟩ := h
  obtain ⟨e1, e2, e3, e4⟩ := h1
  refine ⟨⟨a1, by omega, a3, by omega, by omega, by omega⟩, b1, by rw [e1]; exact b2, b3, ?_⟩
  rw [e1]
  intro w hw
  obtain ⟨k1, k2, k3⟩ := h2 w (by omega)
  rw [k1, k2, k3]; exact b4 w hw
