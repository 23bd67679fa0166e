section LW
variable {p : Program} {l : Launch} {e : Env} {s : State} {m : MethodId} {below : List Frame} {meth : Method} {c : Code} {D : va_G} {cI cC : ClassId} {b L : Nat} {sq : Nat → Int32} {o rr i ce sl : Nat}
theorem law_exit (hL : L ≤ 2048) (hce : ce ≤ 600000 ∧ sl ≤ 7302249) (C0 : lw_At p s m meth c b L sq) (hi : L < i + 4) (hi2 : i ≤ 2052) : lawK p l e s m below meth c D cI cC b o rr i ce sl 18 := by
  intro H locs ls hI hS hl
  obtain ⟨hx, hb, hr, hml, hown, htt, hX, hbl, hlocks, hgv⟩ := id C0
  have hbA : ¬ (fun q : Nat => s.heap.size ≤ q) b := Nat.not_le.mpr hbl
  refine lv_iload_n hx hb dL_law_18 rfl (lv_at hl 3 rfl) ?_
  refine lv_aload_n hx hb dL_law_19 rfl (lv_at hl 0 rfl) ?_
  refine va_slen hx hb hX hbl hbA hS dL_law_20 ?_
  refine x_top (show Int32.ofNat L = nI L from rfl) ?_
  refine lv_iconst (v := nI 4) hx hb dL_law_21 (by decide) ?_
  refine x_isubZ hx hb dL_law_22 ?_
  refine x_top2 (nI_iI _) ?_
  refine z_icmp_gt (tgt := 857) hx hb dL_law_23 (by decide) (by omega) (by omega) (fun h => ?_) (fun h => False.elim (by omega))
  refine lv_iconst (v := 1) hx hb dL_law_857 (by decide) ?_
  refine va_forget (fun q hq => hS.2.2 q hq) ?_
  refine W.widen (k := 600000) (n := 7302249) hce.1 hce.2 ?_
  exact lw_ret hx hb hr hlocks dL_law_858
theorem law_inc (hL : L ≤ 2048) (C0 : lw_At p s m meth c b L sq) (ih : lawK p l e s m below meth c D cI cC b o rr (i + 4) ce sl 18) : lawK p l e s m below meth c D cI cC b o rr i ce sl 851 := by
  intro H locs ls hI hS hl
  obtain ⟨hx, hb, hr, hml, hown, htt, hX, hbl, hlocks, hgv⟩ := id C0
  refine lv_iinc (v := nI (i + 4)) (lv' := [(3, .int (nI (i + 4))), (0, .ref b), (1, .ref o), (2, .ref rr)]) hx hb dL_law_851 hl (k := 3) rfl (nI_inc _ 4) (by decide) rfl (fun ls hl => ?_)
  refine lv_goto (tgt := 18) hx hb dL_law_854 (by decide) ?_
  exact ih H locs ls hI hS (lv_sub hl [1, 2, 3, 0] rfl)
set_option maxRecDepth 100000 in
set_option maxHeartbeats 4000000 in
theorem law_body (hL : L ≤ 2048) (hce : ce ≤ 600000 ∧ sl ≤ 7302249) (C0 : lw_At p s m meth c b L sq) (hK : va_K D vwCl (tyG cI cC) s) (hi : i + 4 ≤ L) (kk : lawK p l e s m below meth c D cI cC b o rr i ce sl 851) : lawK p l e s m below meth c D cI cC b o rr i ce sl 18 := by
  intro H locs ls hI hS hl
  obtain ⟨hx, hb, hr, hml, hown, htt, hX, hbl, hlocks, hgv⟩ := id C0
  have hbA : ¬ (fun q : Nat => s.heap.size ≤ q) b := Nat.not_le.mpr hbl
  refine lv_iload_n hx hb dL_law_18 rfl (lv_at hl 3 rfl) ?_
  refine lv_aload_n hx hb dL_law_19 rfl (lv_at hl 0 rfl) ?_
  refine va_slen hx hb hX hbl hbA hS dL_law_20 ?_
  refine x_top (show Int32.ofNat L = nI L from rfl) ?_
  refine lv_iconst (v := nI 4) hx hb dL_law_21 (by decide) ?_
  refine x_isubZ hx hb dL_law_22 ?_
  refine x_top2 (nI_iI _) ?_
  refine z_icmp_gt (tgt := 857) hx hb dL_law_23 (by decide) (by omega) (by omega) (fun h => False.elim (by omega)) (fun h => ?_)
  refine lv_aload_n hx hb dL_law_26 rfl (lv_at hl 0 rfl) ?_
  refine lv_iload_n hx hb dL_law_27 rfl (lv_at hl 3 rfl) ?_
  refine va_sld hx hb hX hbl hbA hS (nI_vin (show i < L by omega) (by omega)) dL_law_28 ?_
  refine lv_topi (fun y hy => ?_)
  refine lv_bipush (v := nI 31) hx hb dL_law_29 (by decide) ?_
  refine lv_iand hx hb dL_law_31 ?_
  refine x_top (pk_and y 5 (m := nI 31) (by decide)) ?_
  obtain ⟨k, hk⟩ : ∃ k, k = y.toBitVec.toNat % 2 ^ 5 := ⟨_, rfl⟩
  rw [← hk]
  have hk32 : k < 32 := by rw [hk]; exact Nat.mod_lt _ (by omega)
  rcases (show k = 0 ∨ k = 1 ∨ k = 2 ∨ k = 3 ∨ k = 4 ∨ k = 5 ∨ k = 6 ∨ k = 7 ∨ k = 8 ∨ k = 9 ∨ k = 10 ∨ k = 11 ∨ k = 12 ∨ k = 13 ∨ k = 14 ∨ k = 15 ∨ k = 16 ∨ k = 17 ∨ k = 18 ∨ k = 19 ∨ k = 20 ∨ k = 21 ∨ k = 22 ∨ k = 23 ∨ k = 24 ∨ k = 25 ∨ k = 26 ∨ k = 27 ∨ k = 28 ∨ 29 ≤ k by omega) with hk1 | hk1 | hk1 | hk1 | hk1 | hk1 | hk1 | hk1 | hk1 | hk1 | hk1 | hk1 | hk1 | hk1 | hk1 | hk1 | hk1 | hk1 | hk1 | hk1 | hk1 | hk1 | hk1 | hk1 | hk1 | hk1 | hk1 | hk1 | hk1 | hk1
  · rw [hk1]
    refine lv_tableIn (tgt := 164) hx hb dL_law_32 (by decide) (by decide) rfl (by decide) ?_
    exact lc_0 hL hce C0 hK hi kk H locs ls hI hS hl
  · rw [hk1]
    refine lv_tableIn (tgt := 227) hx hb dL_law_32 (by decide) (by decide) rfl (by decide) ?_
    exact lc_1 hL hce C0 hK hi kk H locs ls hI hS hl
  · rw [hk1]
    refine lv_tableIn (tgt := 240) hx hb dL_law_32 (by decide) (by decide) rfl (by decide) ?_
    exact lc_2 hL hce C0 hK hi kk H locs ls hI hS hl
  · rw [hk1]
    refine lv_tableIn (tgt := 253) hx hb dL_law_32 (by decide) (by decide) rfl (by decide) ?_
    exact lc_3 hL hce C0 hK hi kk H locs ls hI hS hl
  · rw [hk1]
    refine lv_tableIn (tgt := 266) hx hb dL_law_32 (by decide) (by decide) rfl (by decide) ?_
    exact lc_4 hL hce C0 hK hi kk H locs ls hI hS hl
  · rw [hk1]
    refine lv_tableIn (tgt := 299) hx hb dL_law_32 (by decide) (by decide) rfl (by decide) ?_
    exact lc_5 hL hce C0 hK hi kk H locs ls hI hS hl
  · rw [hk1]
    refine lv_tableIn (tgt := 332) hx hb dL_law_32 (by decide) (by decide) rfl (by decide) ?_
    exact lc_6 hL hce C0 hK hi kk H locs ls hI hS hl
  · rw [hk1]
    refine lv_tableIn (tgt := 365) hx hb dL_law_32 (by decide) (by decide) rfl (by decide) ?_
    exact lc_7 hL hce C0 hK hi kk H locs ls hI hS hl
  · rw [hk1]
    refine lv_tableIn (tgt := 388) hx hb dL_law_32 (by decide) (by decide) rfl (by decide) ?_
    exact lc_8 hL hce C0 hK hi kk H locs ls hI hS hl
  · rw [hk1]
    refine lv_tableIn (tgt := 401) hx hb dL_law_32 (by decide) (by decide) rfl (by decide) ?_
    exact lc_9 hL hce C0 hK hi kk H locs ls hI hS hl
  · rw [hk1]
    refine lv_tableIn (tgt := 424) hx hb dL_law_32 (by decide) (by decide) rfl (by decide) ?_
    exact lc_10 hL hce C0 hK hi kk H locs ls hI hS hl
  · rw [hk1]
    refine lv_tableIn (tgt := 457) hx hb dL_law_32 (by decide) (by decide) rfl (by decide) ?_
    exact lc_11 hL hce C0 hK hi kk H locs ls hI hS hl
  · rw [hk1]
    refine lv_tableIn (tgt := 480) hx hb dL_law_32 (by decide) (by decide) rfl (by decide) ?_
    exact lc_12 hL hce C0 hK hi kk H locs ls hI hS hl
  · rw [hk1]
    refine lv_tableIn (tgt := 523) hx hb dL_law_32 (by decide) (by decide) rfl (by decide) ?_
    exact lc_13 hL hce C0 hK hi kk H locs ls hI hS hl
  · rw [hk1]
    refine lv_tableIn (tgt := 536) hx hb dL_law_32 (by decide) (by decide) rfl (by decide) ?_
    exact lc_14 hL hce C0 hK hi kk H locs ls hI hS hl
  · rw [hk1]
    refine lv_tableIn (tgt := 549) hx hb dL_law_32 (by decide) (by decide) rfl (by decide) ?_
    exact lc_15 hL hce C0 hK hi kk H locs ls hI hS hl
  · rw [hk1]
    refine lv_tableIn (tgt := 572) hx hb dL_law_32 (by decide) (by decide) rfl (by decide) ?_
    exact lc_16 hL hce C0 hK hi kk H locs ls hI hS hl
  · rw [hk1]
    refine lv_tableIn (tgt := 585) hx hb dL_law_32 (by decide) (by decide) rfl (by decide) ?_
    exact lc_17 hL hce C0 hK hi kk H locs ls hI hS hl
  · rw [hk1]
    refine lv_tableIn (tgt := 608) hx hb dL_law_32 (by decide) (by decide) rfl (by decide) ?_
    exact lc_18 hL hce C0 hK hi kk H locs ls hI hS hl
  · rw [hk1]
    refine lv_tableIn (tgt := 631) hx hb dL_law_32 (by decide) (by decide) rfl (by decide) ?_
    exact lc_19 hL hce C0 hK hi kk H locs ls hI hS hl
  · rw [hk1]
    refine lv_tableIn (tgt := 644) hx hb dL_law_32 (by decide) (by decide) rfl (by decide) ?_
    exact lc_20 hL hce C0 hK hi kk H locs ls hI hS hl
  · rw [hk1]
    refine lv_tableIn (tgt := 687) hx hb dL_law_32 (by decide) (by decide) rfl (by decide) ?_
    exact lc_21 hL hce C0 hK hi kk H locs ls hI hS hl
  · rw [hk1]
    refine lv_tableIn (tgt := 730) hx hb dL_law_32 (by decide) (by decide) rfl (by decide) ?_
    exact lc_22 hL hce C0 hK hi kk H locs ls hI hS hl
  · rw [hk1]
    refine lv_tableIn (tgt := 743) hx hb dL_law_32 (by decide) (by decide) rfl (by decide) ?_
    exact lc_23 hL hce C0 hK hi kk H locs ls hI hS hl
  · rw [hk1]
    refine lv_tableIn (tgt := 766) hx hb dL_law_32 (by decide) (by decide) rfl (by decide) ?_
    exact lc_24 hL hce C0 hK hi kk H locs ls hI hS hl
  · rw [hk1]
    refine lv_tableIn (tgt := 779) hx hb dL_law_32 (by decide) (by decide) rfl (by decide) ?_
    exact lc_25 hL hce C0 hK hi kk H locs ls hI hS hl
  · rw [hk1]
    refine lv_tableIn (tgt := 802) hx hb dL_law_32 (by decide) (by decide) rfl (by decide) ?_
    exact lc_26 hL hce C0 hK hi kk H locs ls hI hS hl
  · rw [hk1]
    refine lv_tableIn (tgt := 815) hx hb dL_law_32 (by decide) (by decide) rfl (by decide) ?_
    exact lc_27 hL hce C0 hK hi kk H locs ls hI hS hl
  · rw [hk1]
    refine lv_tableIn (tgt := 828) hx hb dL_law_32 (by decide) (by decide) rfl (by decide) ?_
    exact lc_28 hL hce C0 hK hi kk H locs ls hI hS hl
  · refine lv_tableOut (tgt := 851) hx hb dL_law_32 (by rw [nI_toInt (by omega)]; omega) (by decide) ?_
    exact kk H locs ls hI hS hl
theorem law_loop (hL : L ≤ 2048) (hce : ce ≤ 600000 ∧ sl ≤ 7302249) (C0 : lw_At p s m meth c b L sq) (hK : va_K D vwCl (tyG cI cC) s) : ∀ (n i : Nat), L + 1 ≤ i + n → i ≤ 2052 → lawK p l e s m below meth c D cI cC b o rr i ce sl 18 := by
  intro n
  induction n with
  | zero => intro i h1 h2; exact law_exit hL hce C0 (by omega) h2
  | succ n ih =>
    intro i h1 h2
    by_cases hi : i + 4 ≤ L
    · exact law_body hL hce C0 hK hi (law_inc hL C0 (ih (i + 4) (by omega) (by omega)))
    · exact law_exit hL hce C0 (by omega) h2
end LW
set_option maxRecDepth 10000 in
theorem Qcan_init : Qcan (upN (upN (fun _ => 0) 0 0) 0 1) (upN (fun _ => 0) 0 20) (upN (fun _ => 0) 0 2) (fun _ => 0) (upN (fun _ => 0) 0 1) (upN (upN (fun _ => 0) 0 0) 0 2) (upN (fun _ => 0) 1 3) (upN (upN (fun _ => 0) 0 1) 1 2) (upN (upN (fun _ => 0) 0 50) 1 50) (upN (fun _ => 0) 0 0) (upN (fun _ => 0) 0 10) (upN (fun _ => 0) 0 0) (add3 (fun _ => 0) (3 * 0) 20 2 0) (add3 (add3 (fun _ => 0) (3 * 0) 0 1 50) (3 * (0 + 1)) 3 2 50) := by
  refine ⟨⟨by decide, by decide, by decide, by decide, by decide, by decide⟩, ?_, ?_, ?_, ?_⟩
  · intro f hf
    have h : f < 1 := hf
    obtain rfl : f = 0 := by omega
    decide
  · intro w hw
    have h : w < 2 := hw
    rcases (show w = 0 ∨ w = 1 by omega) with rfl | rfl
    · decide
    · decide
  · intro f hf
    have h : f < 1 := hf
    obtain rfl : f = 0 := by omega
    exact ⟨rfl, rfl, rfl⟩
  · intro w hw
    have h : w < 2 := hw
    rcases (show w = 0 ∨ w = 1 by omega) with rfl | rfl
    · exact ⟨rfl, rfl, rfl⟩
    · exact ⟨rfl, rfl, rfl⟩
set_option maxRecDepth 100000 in
set_option maxHeartbeats 8000000 in
theorem whole_start {p : Program} {e : Env} {s : State} {m : MethodId} {below : List Frame} {meth : Method} {c : Code} (l : Launch) (hflags : l.flags = flags0) {b L : Nat} {xs : Nat → Int32} (hL : L ≤ 2048) (C0 : lw_At p s m meth c b L xs) : W p l e room_1 s m #[Value.ref b] below meth c s.heap [] 0 0 (lw_Z below #[Value.ref b] s) (entryFrame m ([Value.ref b] : List Value).toArray 4) := by
  obtain ⟨hx, hb, hr, hml, hown, htt, hX, hbl, hlocks, hgv⟩ := id C0
  have hts : ∀ w ∈ wsL_law, w.before #[Value.ref b] s = true := fun w hw => htt w (wsL_law_in w hw)
  have hown : s.vm.findClass RL = some m.cls := hown
  have hN := nz_law htt
  have hO := ao_law htt
  obtain ⟨cI, hcI⟩ := cI_law htt
  obtain ⟨cC, hcC⟩ := cC_law htt
  obtain ⟨c0, iS0, hKn0⟩ := u_known (C := RX0) (T := TX0) (N := 6) (n := 6) hts inlX0 (hts (.instantiable RX0 6) (by decide +kernel))
  obtain ⟨c1, iS1, hKn1⟩ := u_known (C := RX1) (T := TX1) (N := 2) (n := 2) hts inlX1 (hts (.instantiable RX1 2) (by decide +kernel))
  obtain ⟨c2, iS2, hKn2⟩ := u_known (C := RX2) (T := TX2) (N := 2) (n := 2) hts inlX2 (hts (.instantiable RX2 2) (by decide +kernel))
  obtain ⟨c3, iS3, hKn3⟩ := u_known (C := RX3) (T := TX3) (N := 2) (n := 2) hts inlX3 (hts (.instantiable RX3 2) (by decide +kernel))
  obtain ⟨c4, iS4, hKn4⟩ := u_known (C := RX4) (T := TX4) (N := 2) (n := 2) hts inlX4 (hts (.instantiable RX4 2) (by decide +kernel))
  obtain ⟨c5, iS5, hKn5⟩ := u_known (C := RX5) (T := TX5) (N := 2) (n := 2) hts inlX5 (hts (.instantiable RX5 2) (by decide +kernel))
  obtain ⟨c6, iS6, hKn6⟩ := u_known (C := RX6) (T := TX6) (N := 10) (n := 10) hts inlX6 (hts (.instantiable RX6 10) (by decide +kernel))
  obtain ⟨c7, iS7, hKn7⟩ := u_known (C := RX7) (T := TX7) (N := 28) (n := 28) hts inlX7 (hts (.instantiable RX7 28) (by decide +kernel))
  obtain ⟨dC, dI, hKc⟩ : ∃ (dC : Nat → ClassId) (dI : Nat → Nat → Nat), ∀ (k : Nat) (q : vw_C), vwCl[k]? = some q → u_Kn s q.1 q.2.1 q.2.2 (dC k) (dI k) := by
    refine ⟨fun k => [c0, c1, c2, c3, c4, c5, c6, c7].getD k c0, fun k => [iS0, iS1, iS2, iS3, iS4, iS5, iS6, iS7].getD k iS0, ?_⟩
    intro k q hq
    match k, hq with
    | 0, hq => cases hq; exact hKn0
    | 1, hq => cases hq; exact hKn1
    | 2, hq => cases hq; exact hKn2
    | 3, hq => cases hq; exact hKn3
    | 4, hq => cases hq; exact hKn4
    | 5, hq => cases hq; exact hKn5
    | 6, hq => cases hq; exact hKn6
    | 7, hq => cases hq; exact hKn7
    | k + 8, hq => simp [vwCl] at hq
  have hK : va_K (dC, dI) vwCl (tyG cI cC) s := ⟨hKc, fun k q h => by
    match k, h with
    | 0, h => cases h; exact hcI
    | 1, h => cases h; exact hcC
    | k + 2, h => simp [tyG] at h⟩
  generalize hDe : ((dC, dI) : va_G) = D at hK
  have hP : va_P D vwCl [] s.heap := fun k q h => by simp at h
  have hS : va_S (fun q : Nat => s.heap.size ≤ q) s.heap s.heap [] := va_S.rf
  have hD : va_D (fun q : Nat => s.heap.size ≤ q) [] := ⟨fun i j p q h => by simp at h, fun k q h => by simp at h⟩
  have hA : ∀ q : Nat, s.heap.size ≤ q → (fun q : Nat => s.heap.size ≤ q) q := fun _ h => h
  generalize hAe : (fun q : Nat => s.heap.size ≤ q) = A at hS hD hA
  have hl := lv_entry ([.ref b]) (n := 4) (Nat.le_of_ble_eq_true rfl)
  rw [lg_entry_eq]
  generalize (lg_sl ([.ref b]) ++ List.replicate (4 - (lg_sl ([.ref b])).length) Slot.unset).toArray = ls at hl ⊢
  have hl : lv_has ls 4 [(0, .ref b)] := hl
  refine va_new (ci := 6) (fs := [.null, .null, .null, .null, .null, .null, .null, .null, .null, .null]) (C := RX6) (T := TX6) (N := 10) hx hb hts inlX6 tyX6 tyX6_ok hown (hts (.classLink RL 7 RX6) (by decide +kernel)) (hts (.instantiable RX6 10) (by decide +kernel)) (hts (.initialized RX6) (by decide +kernel)) hK hP hD hS hA rfl (fun j hj => by rcases (show j = 0 ∨ j = 1 ∨ j = 2 ∨ j = 3 ∨ j = 4 ∨ j = 5 ∨ j = 6 ∨ j = 7 ∨ j = 8 ∨ j = 9 by omega) with rfl | rfl | rfl | rfl | rfl | rfl | rfl | rfl | rfl | rfl <;> rfl) (Nat.le_of_ble_eq_true rfl) (Nat.le_of_ble_eq_true rfl) dL_law_0 (fun q1 H hP hD hS => ?_)
  have hP : va_P D vwCl [(q1, .inr (6, [.null, .null, .null, .null, .null, .null, .null, .null, .null, .null]))] H := hP
  have hD : va_D A [(q1, .inr (6, [.null, .null, .null, .null, .null, .null, .null, .null, .null, .null]))] := hD
  refine W.widen (k := 1) (n := 10) (by omega) (by omega) ?_
  refine lv_dup hx hb dL_law_3 rfl ?_
  refine k_I (As := []) (wr := []) (mc := 88) (ms := 1266) ⟨hx, hb, hml, hown, hts⟩ (c_X6_init l D cI cC q1) (cwI 0 hts gL_law_X6_init rfl rfl rfl (hts (.initialized RX6) (by decide +kernel)) (hts (.methodLink RL 9 yX6_init) (by decide +kernel)) (hts (.instanceMethod yX6_init) (by decide +kernel)) rfl (by decide +kernel) ⟨Nat.le_of_ble_eq_true rfl, Nat.le_of_ble_eq_true rfl⟩) rfl hl.1 rfl (Nat.le_of_ble_eq_true rfl) dL_law_4 ⟨(Nat.le_of_ble_eq_true rfl), (Nat.le_of_ble_eq_true rfl)⟩ hO hN hK hP hD hS hA [0] [] rfl rfl ⟨rfl, rfl, by decide⟩ (fun u H locs w50 hP hD hS => ?_)
  obtain ⟨t02, tb3, tba4, tn5, tna6, a7, b18, c19, b210, c211, a212, b313, c314, b415, c416, w017, wb18, bb19, wl20, bl21, y022, yb23, ybb24, yl25, ybl26, s027, v128, va29, l130, la31, h032, hq33, g034, gq35, u036, ua37, v038, ea39, qa40, qb41, qc42, qd43, qe44, ra45, rb46, rc47, rd48, re49⟩ := u
  have hP : va_P D vwCl [(q1, eEPR t02 a7 a212 w017 y022 s027 h032 g034 u036 v038), (t02, eTxt tb3 tn5), (tb3, eRow tba4 0), (tba4, eArr cI 300 (fun _ => 0)), (tn5, eRow tna6 0), (tna6, eArr cI 3 (fun _ => 0)), (a7, eCan b18 b210 0 10 1 0), (b18, eRow c19 (3 * (0 + 1))), (c19, eArr cI 12 (add3 (fun _ => 0) (3 * 0) 20 2 0)), (b210, eRow c211 (3 * (0 + 1 + 1))), (c211, eArr cI 24 (add3 (add3 (fun _ => 0) (3 * 0) 0 1 50) (3 * (0 + 1)) 3 2 50)), (a212, eCan b313 b415 0 10 1 0), (b313, eRow c314 (3 * 0)), (c314, eArr cI 12 (fun _ => 0)), (b415, eRow c416 (3 * 0)), (c416, eArr cI 24 (fun _ => 0)), (w017, eWay wb18 wl20), (wb18, eRow bb19 0), (bb19, eArr cI 9 (fun _ => 0)), (wl20, eRow bl21 0), (bl21, eArr cI 9 (fun _ => 0)), (y022, eWay yb23 yl25), (yb23, eRow ybb24 0), (ybb24, eArr cI 9 (fun _ => 0)), (yl25, eRow ybl26 0), (ybl26, eArr cI 9 (fun _ => 0)), (s027, eSnd v128 l130), (v128, eRow va29 0), (va29, eArr cI 150 (fun _ => 0)), (l130, eRow la31 0), (la31, eArr cI 150 (fun _ => 0)), (h032, eShe hq33 0), (hq33, eArC cC 8 (fun j => some (qa40 j))), (qa40 0, eCan (qb41 0) (qd43 0) 0 10 1 0), (qb41 0, eRow (qc42 0) (3 * 0)), (qc42 0, eArr cI 12 (fun _ => 0)), (qd43 0, eRow (qe44 0) (3 * 0)), (qe44 0, eArr cI 24 (fun _ => 0)), (qa40 1, eCan (qb41 1) (qd43 1) 0 10 1 0), (qb41 1, eRow (qc42 1) (3 * 0)), (qc42 1, eArr cI 12 (fun _ => 0)), (qd43 1, eRow (qe44 1) (3 * 0)), (qe44 1, eArr cI 24 (fun _ => 0)), (qa40 2, eCan (qb41 2) (qd43 2) 0 10 1 0), (qb41 2, eRow (qc42 2) (3 * 0)), (qc42 2, eArr cI 12 (fun _ => 0)), (qd43 2, eRow (qe44 2) (3 * 0)), (qe44 2, eArr cI 24 (fun _ => 0)), (qa40 3, eCan (qb41 3) (qd43 3) 0 10 1 0), (qb41 3, eRow (qc42 3) (3 * 0)), (qc42 3, eArr cI 12 (fun _ => 0)), (qd43 3, eRow (qe44 3) (3 * 0)), (qe44 3, eArr cI 24 (fun _ => 0)), (qa40 4, eCan (qb41 4) (qd43 4) 0 10 1 0), (qb41 4, eRow (qc42 4) (3 * 0)), (qc42 4, eArr cI 12 (fun _ => 0)), (qd43 4, eRow (qe44 4) (3 * 0)), (qe44 4, eArr cI 24 (fun _ => 0)), (qa40 5, eCan (qb41 5) (qd43 5) 0 10 1 0), (qb41 5, eRow (qc42 5) (3 * 0)), (qc42 5, eArr cI 12 (fun _ => 0)), (qd43 5, eRow (qe44 5) (3 * 0)), (qe44 5, eArr cI 24 (fun _ => 0)), (qa40 6, eCan (qb41 6) (qd43 6) 0 10 1 0), (qb41 6, eRow (qc42 6) (3 * 0)), (qc42 6, eArr cI 12 (fun _ => 0)), (qd43 6, eRow (qe44 6) (3 * 0)), (qe44 6, eArr cI 24 (fun _ => 0)), (qa40 7, eCan (qb41 7) (qd43 7) 0 10 1 0), (qb41 7, eRow (qc42 7) (3 * 0)), (qc42 7, eArr cI 12 (fun _ => 0)), (qd43 7, eRow (qe44 7) (3 * 0)), (qe44 7, eArr cI 24 (fun _ => 0)), (g034, eShe gq35 0), (gq35, eArC cC 2 (fun j => some (ra45 j))), (ra45 0, eCan (rb46 0) (rd48 0) 0 10 1 0), (rb46 0, eRow (rc47 0) (3 * 0)), (rc47 0, eArr cI 12 (fun _ => 0)), (rd48 0, eRow (re49 0) (3 * 0)), (re49 0, eArr cI 24 (fun _ => 0)), (ra45 1, eCan (rb46 1) (rd48 1) 0 10 1 0), (rb46 1, eRow (rc47 1) (3 * 0)), (rc47 1, eArr cI 12 (fun _ => 0)), (rd48 1, eRow (re49 1) (3 * 0)), (re49 1, eArr cI 24 (fun _ => 0)), (u036, eRow ua37 0), (ua37, eArr cI 6 (fun _ => 0)), (v038, eRow ea39 0), (ea39, eArr cI 27 (fun _ => 0))] H := hP
  have hD : va_D A [(q1, eEPR t02 a7 a212 w017 y022 s027 h032 g034 u036 v038), (t02, eTxt tb3 tn5), (tb3, eRow tba4 0), (tba4, eArr cI 300 (fun _ => 0)), (tn5, eRow tna6 0), (tna6, eArr cI 3 (fun _ => 0)), (a7, eCan b18 b210 0 10 1 0), (b18, eRow c19 (3 * (0 + 1))), (c19, eArr cI 12 (add3 (fun _ => 0) (3 * 0) 20 2 0)), (b210, eRow c211 (3 * (0 + 1 + 1))), (c211, eArr cI 24 (add3 (add3 (fun _ => 0) (3 * 0) 0 1 50) (3 * (0 + 1)) 3 2 50)), (a212, eCan b313 b415 0 10 1 0), (b313, eRow c314 (3 * 0)), (c314, eArr cI 12 (fun _ => 0)), (b415, eRow c416 (3 * 0)), (c416, eArr cI 24 (fun _ => 0)), (w017, eWay wb18 wl20), (wb18, eRow bb19 0), (bb19, eArr cI 9 (fun _ => 0)), (wl20, eRow bl21 0), (bl21, eArr cI 9 (fun _ => 0)), (y022, eWay yb23 yl25), (yb23, eRow ybb24 0), (ybb24, eArr cI 9 (fun _ => 0)), (yl25, eRow ybl26 0), (ybl26, eArr cI 9 (fun _ => 0)), (s027, eSnd v128 l130), (v128, eRow va29 0), (va29, eArr cI 150 (fun _ => 0)), (l130, eRow la31 0), (la31, eArr cI 150 (fun _ => 0)), (h032, eShe hq33 0), (hq33, eArC cC 8 (fun j => some (qa40 j))), (qa40 0, eCan (qb41 0) (qd43 0) 0 10 1 0), (qb41 0, eRow (qc42 0) (3 * 0)), (qc42 0, eArr cI 12 (fun _ => 0)), (qd43 0, eRow (qe44 0) (3 * 0)), (qe44 0, eArr cI 24 (fun _ => 0)), (qa40 1, eCan (qb41 1) (qd43 1) 0 10 1 0), (qb41 1, eRow (qc42 1) (3 * 0)), (qc42 1, eArr cI 12 (fun _ => 0)), (qd43 1, eRow (qe44 1) (3 * 0)), (qe44 1, eArr cI 24 (fun _ => 0)), (qa40 2, eCan (qb41 2) (qd43 2) 0 10 1 0), (qb41 2, eRow (qc42 2) (3 * 0)), (qc42 2, eArr cI 12 (fun _ => 0)), (qd43 2, eRow (qe44 2) (3 * 0)), (qe44 2, eArr cI 24 (fun _ => 0)), (qa40 3, eCan (qb41 3) (qd43 3) 0 10 1 0), (qb41 3, eRow (qc42 3) (3 * 0)), (qc42 3, eArr cI 12 (fun _ => 0)), (qd43 3, eRow (qe44 3) (3 * 0)), (qe44 3, eArr cI 24 (fun _ => 0)), (qa40 4, eCan (qb41 4) (qd43 4) 0 10 1 0), (qb41 4, eRow (qc42 4) (3 * 0)), (qc42 4, eArr cI 12 (fun _ => 0)), (qd43 4, eRow (qe44 4) (3 * 0)), (qe44 4, eArr cI 24 (fun _ => 0)), (qa40 5, eCan (qb41 5) (qd43 5) 0 10 1 0), (qb41 5, eRow (qc42 5) (3 * 0)), (qc42 5, eArr cI 12 (fun _ => 0)), (qd43 5, eRow (qe44 5) (3 * 0)), (qe44 5, eArr cI 24 (fun _ => 0)), (qa40 6, eCan (qb41 6) (qd43 6) 0 10 1 0), (qb41 6, eRow (qc42 6) (3 * 0)), (qc42 6, eArr cI 12 (fun _ => 0)), (qd43 6, eRow (qe44 6) (3 * 0)), (qe44 6, eArr cI 24 (fun _ => 0)), (qa40 7, eCan (qb41 7) (qd43 7) 0 10 1 0), (qb41 7, eRow (qc42 7) (3 * 0)), (qc42 7, eArr cI 12 (fun _ => 0)), (qd43 7, eRow (qe44 7) (3 * 0)), (qe44 7, eArr cI 24 (fun _ => 0)), (g034, eShe gq35 0), (gq35, eArC cC 2 (fun j => some (ra45 j))), (ra45 0, eCan (rb46 0) (rd48 0) 0 10 1 0), (rb46 0, eRow (rc47 0) (3 * 0)), (rc47 0, eArr cI 12 (fun _ => 0)), (rd48 0, eRow (re49 0) (3 * 0)), (re49 0, eArr cI 24 (fun _ => 0)), (ra45 1, eCan (rb46 1) (rd48 1) 0 10 1 0), (rb46 1, eRow (rc47 1) (3 * 0)), (rc47 1, eArr cI 12 (fun _ => 0)), (rd48 1, eRow (re49 1) (3 * 0)), (re49 1, eArr cI 24 (fun _ => 0)), (u036, eRow ua37 0), (ua37, eArr cI 6 (fun _ => 0)), (v038, eRow ea39 0), (ea39, eArr cI 27 (fun _ => 0))] := hD
  refine W.widen (k := 89) (n := 1276) (by omega) (by omega) ?_
  refine lv_astore_n (lv' := [(1, .ref q1), (0, .ref b)]) hx hb dL_law_7 rfl hl (by decide) rfl (fun ls hl => ?_)
  refine va_new (ci := 7) (fs := [.int (nI 0), .null, .null, .null, .null, .null, .null, .null, .null, .null, .null, .null, .null, .null, .int (nI 0), .int (nI 0), .null, .int (nI 0), .null, .int (nI 0), .null, .null, .null, .int (nI 0), .null, .null, .null, .null]) (C := RX7) (T := TX7) (N := 28) hx hb hts inlX7 tyX7 tyX7_ok hown (hts (.classLink RL 10 RX7) (by decide +kernel)) (hts (.instantiable RX7 28) (by decide +kernel)) (hts (.initialized RX7) (by decide +kernel)) hK hP hD hS hA rfl (fun j hj => by rcases (show j = 0 ∨ j = 1 ∨ j = 2 ∨ j = 3 ∨ j = 4 ∨ j = 5 ∨ j = 6 ∨ j = 7 ∨ j = 8 ∨ j = 9 ∨ j = 10 ∨ j = 11 ∨ j = 12 ∨ j = 13 ∨ j = 14 ∨ j = 15 ∨ j = 16 ∨ j = 17 ∨ j = 18 ∨ j = 19 ∨ j = 20 ∨ j = 21 ∨ j = 22 ∨ j = 23 ∨ j = 24 ∨ j = 25 ∨ j = 26 ∨ j = 27 by omega) with rfl | rfl | rfl | rfl | rfl | rfl | rfl | rfl | rfl | rfl | rfl | rfl | rfl | rfl | rfl | rfl | rfl | rfl | rfl | rfl | rfl | rfl | rfl | rfl | rfl | rfl | rfl | rfl <;> rfl) (Nat.le_of_ble_eq_true rfl) (Nat.le_of_ble_eq_true rfl) dL_law_8 (fun q51 H hP hD hS => ?_)
  have hP : va_P D vwCl [(q1, eEPR t02 a7 a212 w017 y022 s027 h032 g034 u036 v038), (t02, eTxt tb3 tn5), (tb3, eRow tba4 0), (tba4, eArr cI 300 (fun _ => 0)), (tn5, eRow tna6 0), (tna6, eArr cI 3 (fun _ => 0)), (a7, eCan b18 b210 0 10 1 0), (b18, eRow c19 (3 * (0 + 1))), (c19, eArr cI 12 (add3 (fun _ => 0) (3 * 0) 20 2 0)), (b210, eRow c211 (3 * (0 + 1 + 1))), (c211, eArr cI 24 (add3 (add3 (fun _ => 0) (3 * 0) 0 1 50) (3 * (0 + 1)) 3 2 50)), (a212, eCan b313 b415 0 10 1 0), (b313, eRow c314 (3 * 0)), (c314, eArr cI 12 (fun _ => 0)), (b415, eRow c416 (3 * 0)), (c416, eArr cI 24 (fun _ => 0)), (w017, eWay wb18 wl20), (wb18, eRow bb19 0), (bb19, eArr cI 9 (fun _ => 0)), (wl20, eRow bl21 0), (bl21, eArr cI 9 (fun _ => 0)), (y022, eWay yb23 yl25), (yb23, eRow ybb24 0), (ybb24, eArr cI 9 (fun _ => 0)), (yl25, eRow ybl26 0), (ybl26, eArr cI 9 (fun _ => 0)), (s027, eSnd v128 l130), (v128, eRow va29 0), (va29, eArr cI 150 (fun _ => 0)), (l130, eRow la31 0), (la31, eArr cI 150 (fun _ => 0)), (h032, eShe hq33 0), (hq33, eArC cC 8 (fun j => some (qa40 j))), (qa40 0, eCan (qb41 0) (qd43 0) 0 10 1 0), (qb41 0, eRow (qc42 0) (3 * 0)), (qc42 0, eArr cI 12 (fun _ => 0)), (qd43 0, eRow (qe44 0) (3 * 0)), (qe44 0, eArr cI 24 (fun _ => 0)), (qa40 1, eCan (qb41 1) (qd43 1) 0 10 1 0), (qb41 1, eRow (qc42 1) (3 * 0)), (qc42 1, eArr cI 12 (fun _ => 0)), (qd43 1, eRow (qe44 1) (3 * 0)), (qe44 1, eArr cI 24 (fun _ => 0)), (qa40 2, eCan (qb41 2) (qd43 2) 0 10 1 0), (qb41 2, eRow (qc42 2) (3 * 0)), (qc42 2, eArr cI 12 (fun _ => 0)), (qd43 2, eRow (qe44 2) (3 * 0)), (qe44 2, eArr cI 24 (fun _ => 0)), (qa40 3, eCan (qb41 3) (qd43 3) 0 10 1 0), (qb41 3, eRow (qc42 3) (3 * 0)), (qc42 3, eArr cI 12 (fun _ => 0)), (qd43 3, eRow (qe44 3) (3 * 0)), (qe44 3, eArr cI 24 (fun _ => 0)), (qa40 4, eCan (qb41 4) (qd43 4) 0 10 1 0), (qb41 4, eRow (qc42 4) (3 * 0)), (qc42 4, eArr cI 12 (fun _ => 0)), (qd43 4, eRow (qe44 4) (3 * 0)), (qe44 4, eArr cI 24 (fun _ => 0)), (qa40 5, eCan (qb41 5) (qd43 5) 0 10 1 0), (qb41 5, eRow (qc42 5) (3 * 0)), (qc42 5, eArr cI 12 (fun _ => 0)), (qd43 5, eRow (qe44 5) (3 * 0)), (qe44 5, eArr cI 24 (fun _ => 0)), (qa40 6, eCan (qb41 6) (qd43 6) 0 10 1 0), (qb41 6, eRow (qc42 6) (3 * 0)), (qc42 6, eArr cI 12 (fun _ => 0)), (qd43 6, eRow (qe44 6) (3 * 0)), (qe44 6, eArr cI 24 (fun _ => 0)), (qa40 7, eCan (qb41 7) (qd43 7) 0 10 1 0), (qb41 7, eRow (qc42 7) (3 * 0)), (qc42 7, eArr cI 12 (fun _ => 0)), (qd43 7, eRow (qe44 7) (3 * 0)), (qe44 7, eArr cI 24 (fun _ => 0)), (g034, eShe gq35 0), (gq35, eArC cC 2 (fun j => some (ra45 j))), (ra45 0, eCan (rb46 0) (rd48 0) 0 10 1 0), (rb46 0, eRow (rc47 0) (3 * 0)), (rc47 0, eArr cI 12 (fun _ => 0)), (rd48 0, eRow (re49 0) (3 * 0)), (re49 0, eArr cI 24 (fun _ => 0)), (ra45 1, eCan (rb46 1) (rd48 1) 0 10 1 0), (rb46 1, eRow (rc47 1) (3 * 0)), (rc47 1, eArr cI 12 (fun _ => 0)), (rd48 1, eRow (re49 1) (3 * 0)), (re49 1, eArr cI 24 (fun _ => 0)), (u036, eRow ua37 0), (ua37, eArr cI 6 (fun _ => 0)), (v038, eRow ea39 0), (ea39, eArr cI 27 (fun _ => 0)), (q51, .inr (7, [.int (nI 0), .null, .null, .null, .null, .null, .null, .null, .null, .null, .null, .null, .null, .null, .int (nI 0), .int (nI 0), .null, .int (nI 0), .null, .int (nI 0), .null, .null, .null, .int (nI 0), .null, .null, .null, .null]))] H := hP
  have hD : va_D A [(q1, eEPR t02 a7 a212 w017 y022 s027 h032 g034 u036 v038), (t02, eTxt tb3 tn5), (tb3, eRow tba4 0), (tba4, eArr cI 300 (fun _ => 0)), (tn5, eRow tna6 0), (tna6, eArr cI 3 (fun _ => 0)), (a7, eCan b18 b210 0 10 1 0), (b18, eRow c19 (3 * (0 + 1))), (c19, eArr cI 12 (add3 (fun _ => 0) (3 * 0) 20 2 0)), (b210, eRow c211 (3 * (0 + 1 + 1))), (c211, eArr cI 24 (add3 (add3 (fun _ => 0) (3 * 0) 0 1 50) (3 * (0 + 1)) 3 2 50)), (a212, eCan b313 b415 0 10 1 0), (b313, eRow c314 (3 * 0)), (c314, eArr cI 12 (fun _ => 0)), (b415, eRow c416 (3 * 0)), (c416, eArr cI 24 (fun _ => 0)), (w017, eWay wb18 wl20), (wb18, eRow bb19 0), (bb19, eArr cI 9 (fun _ => 0)), (wl20, eRow bl21 0), (bl21, eArr cI 9 (fun _ => 0)), (y022, eWay yb23 yl25), (yb23, eRow ybb24 0), (ybb24, eArr cI 9 (fun _ => 0)), (yl25, eRow ybl26 0), (ybl26, eArr cI 9 (fun _ => 0)), (s027, eSnd v128 l130), (v128, eRow va29 0), (va29, eArr cI 150 (fun _ => 0)), (l130, eRow la31 0), (la31, eArr cI 150 (fun _ => 0)), (h032, eShe hq33 0), (hq33, eArC cC 8 (fun j => some (qa40 j))), (qa40 0, eCan (qb41 0) (qd43 0) 0 10 1 0), (qb41 0, eRow (qc42 0) (3 * 0)), (qc42 0, eArr cI 12 (fun _ => 0)), (qd43 0, eRow (qe44 0) (3 * 0)), (qe44 0, eArr cI 24 (fun _ => 0)), (qa40 1, eCan (qb41 1) (qd43 1) 0 10 1 0), (qb41 1, eRow (qc42 1) (3 * 0)), (qc42 1, eArr cI 12 (fun _ => 0)), (qd43 1, eRow (qe44 1) (3 * 0)), (qe44 1, eArr cI 24 (fun _ => 0)), (qa40 2, eCan (qb41 2) (qd43 2) 0 10 1 0), (qb41 2, eRow (qc42 2) (3 * 0)), (qc42 2, eArr cI 12 (fun _ => 0)), (qd43 2, eRow (qe44 2) (3 * 0)), (qe44 2, eArr cI 24 (fun _ => 0)), (qa40 3, eCan (qb41 3) (qd43 3) 0 10 1 0), (qb41 3, eRow (qc42 3) (3 * 0)), (qc42 3, eArr cI 12 (fun _ => 0)), (qd43 3, eRow (qe44 3) (3 * 0)), (qe44 3, eArr cI 24 (fun _ => 0)), (qa40 4, eCan (qb41 4) (qd43 4) 0 10 1 0), (qb41 4, eRow (qc42 4) (3 * 0)), (qc42 4, eArr cI 12 (fun _ => 0)), (qd43 4, eRow (qe44 4) (3 * 0)), (qe44 4, eArr cI 24 (fun _ => 0)), (qa40 5, eCan (qb41 5) (qd43 5) 0 10 1 0), (qb41 5, eRow (qc42 5) (3 * 0)), (qc42 5, eArr cI 12 (fun _ => 0)), (qd43 5, eRow (qe44 5) (3 * 0)), (qe44 5, eArr cI 24 (fun _ => 0)), (qa40 6, eCan (qb41 6) (qd43 6) 0 10 1 0), (qb41 6, eRow (qc42 6) (3 * 0)), (qc42 6, eArr cI 12 (fun _ => 0)), (qd43 6, eRow (qe44 6) (3 * 0)), (qe44 6, eArr cI 24 (fun _ => 0)), (qa40 7, eCan (qb41 7) (qd43 7) 0 10 1 0), (qb41 7, eRow (qc42 7) (3 * 0)), (qc42 7, eArr cI 12 (fun _ => 0)), (qd43 7, eRow (qe44 7) (3 * 0)), (qe44 7, eArr cI 24 (fun _ => 0)), (g034, eShe gq35 0), (gq35, eArC cC 2 (fun j => some (ra45 j))), (ra45 0, eCan (rb46 0) (rd48 0) 0 10 1 0), (rb46 0, eRow (rc47 0) (3 * 0)), (rc47 0, eArr cI 12 (fun _ => 0)), (rd48 0, eRow (re49 0) (3 * 0)), (re49 0, eArr cI 24 (fun _ => 0)), (ra45 1, eCan (rb46 1) (rd48 1) 0 10 1 0), (rb46 1, eRow (rc47 1) (3 * 0)), (rc47 1, eArr cI 12 (fun _ => 0)), (rd48 1, eRow (re49 1) (3 * 0)), (re49 1, eArr cI 24 (fun _ => 0)), (u036, eRow ua37 0), (ua37, eArr cI 6 (fun _ => 0)), (v038, eRow ea39 0), (ea39, eArr cI 27 (fun _ => 0)), (q51, .inr (7, [.int (nI 0), .null, .null, .null, .null, .null, .null, .null, .null, .null, .null, .null, .null, .null, .int (nI 0), .int (nI 0), .null, .int (nI 0), .null, .int (nI 0), .null, .null, .null, .int (nI 0), .null, .null, .null, .null]))] := hD
  refine W.widen (k := 90) (n := 1304) (by omega) (by omega) ?_
  refine lv_dup hx hb dL_law_11 rfl ?_
  refine k_I (As := []) (wr := [(q1, eEPR t02 a7 a212 w017 y022 s027 h032 g034 u036 v038), (t02, eTxt tb3 tn5), (tb3, eRow tba4 0), (tba4, eArr cI 300 (fun _ => 0)), (tn5, eRow tna6 0), (tna6, eArr cI 3 (fun _ => 0)), (a7, eCan b18 b210 0 10 1 0), (b18, eRow c19 (3 * (0 + 1))), (c19, eArr cI 12 (add3 (fun _ => 0) (3 * 0) 20 2 0)), (b210, eRow c211 (3 * (0 + 1 + 1))), (c211, eArr cI 24 (add3 (add3 (fun _ => 0) (3 * 0) 0 1 50) (3 * (0 + 1)) 3 2 50)), (a212, eCan b313 b415 0 10 1 0), (b313, eRow c314 (3 * 0)), (c314, eArr cI 12 (fun _ => 0)), (b415, eRow c416 (3 * 0)), (c416, eArr cI 24 (fun _ => 0)), (w017, eWay wb18 wl20), (wb18, eRow bb19 0), (bb19, eArr cI 9 (fun _ => 0)), (wl20, eRow bl21 0), (bl21, eArr cI 9 (fun _ => 0)), (y022, eWay yb23 yl25), (yb23, eRow ybb24 0), (ybb24, eArr cI 9 (fun _ => 0)), (yl25, eRow ybl26 0), (ybl26, eArr cI 9 (fun _ => 0)), (s027, eSnd v128 l130), (v128, eRow va29 0), (va29, eArr cI 150 (fun _ => 0)), (l130, eRow la31 0), (la31, eArr cI 150 (fun _ => 0)), (h032, eShe hq33 0), (hq33, eArC cC 8 (fun j => some (qa40 j))), (qa40 0, eCan (qb41 0) (qd43 0) 0 10 1 0), (qb41 0, eRow (qc42 0) (3 * 0)), (qc42 0, eArr cI 12 (fun _ => 0)), (qd43 0, eRow (qe44 0) (3 * 0)), (qe44 0, eArr cI 24 (fun _ => 0)), (qa40 1, eCan (qb41 1) (qd43 1) 0 10 1 0), (qb41 1, eRow (qc42 1) (3 * 0)), (qc42 1, eArr cI 12 (fun _ => 0)), (qd43 1, eRow (qe44 1) (3 * 0)), (qe44 1, eArr cI 24 (fun _ => 0)), (qa40 2, eCan (qb41 2) (qd43 2) 0 10 1 0), (qb41 2, eRow (qc42 2) (3 * 0)), (qc42 2, eArr cI 12 (fun _ => 0)), (qd43 2, eRow (qe44 2) (3 * 0)), (qe44 2, eArr cI 24 (fun _ => 0)), (qa40 3, eCan (qb41 3) (qd43 3) 0 10 1 0), (qb41 3, eRow (qc42 3) (3 * 0)), (qc42 3, eArr cI 12 (fun _ => 0)), (qd43 3, eRow (qe44 3) (3 * 0)), (qe44 3, eArr cI 24 (fun _ => 0)), (qa40 4, eCan (qb41 4) (qd43 4) 0 10 1 0), (qb41 4, eRow (qc42 4) (3 * 0)), (qc42 4, eArr cI 12 (fun _ => 0)), (qd43 4, eRow (qe44 4) (3 * 0)), (qe44 4, eArr cI 24 (fun _ => 0)), (qa40 5, eCan (qb41 5) (qd43 5) 0 10 1 0), (qb41 5, eRow (qc42 5) (3 * 0)), (qc42 5, eArr cI 12 (fun _ => 0)), (qd43 5, eRow (qe44 5) (3 * 0)), (qe44 5, eArr cI 24 (fun _ => 0)), (qa40 6, eCan (qb41 6) (qd43 6) 0 10 1 0), (qb41 6, eRow (qc42 6) (3 * 0)), (qc42 6, eArr cI 12 (fun _ => 0)), (qd43 6, eRow (qe44 6) (3 * 0)), (qe44 6, eArr cI 24 (fun _ => 0)), (qa40 7, eCan (qb41 7) (qd43 7) 0 10 1 0), (qb41 7, eRow (qc42 7) (3 * 0)), (qc42 7, eArr cI 12 (fun _ => 0)), (qd43 7, eRow (qe44 7) (3 * 0)), (qe44 7, eArr cI 24 (fun _ => 0)), (g034, eShe gq35 0), (gq35, eArC cC 2 (fun j => some (ra45 j))), (ra45 0, eCan (rb46 0) (rd48 0) 0 10 1 0), (rb46 0, eRow (rc47 0) (3 * 0)), (rc47 0, eArr cI 12 (fun _ => 0)), (rd48 0, eRow (re49 0) (3 * 0)), (re49 0, eArr cI 24 (fun _ => 0)), (ra45 1, eCan (rb46 1) (rd48 1) 0 10 1 0), (rb46 1, eRow (rc47 1) (3 * 0)), (rc47 1, eArr cI 12 (fun _ => 0)), (rd48 1, eRow (re49 1) (3 * 0)), (re49 1, eArr cI 24 (fun _ => 0)), (u036, eRow ua37 0), (ua37, eArr cI 6 (fun _ => 0)), (v038, eRow ea39 0), (ea39, eArr cI 27 (fun _ => 0))]) (mc := 22) (ms := 814) ⟨hx, hb, hml, hown, hts⟩ (c_X7_init l D cI cC q51) (cwI 0 hts gL_law_X7_init rfl rfl rfl (hts (.initialized RX7) (by decide +kernel)) (hts (.methodLink RL 12 yX7_init) (by decide +kernel)) (hts (.instanceMethod yX7_init) (by decide +kernel)) rfl (by decide +kernel) ⟨Nat.le_of_ble_eq_true rfl, Nat.le_of_ble_eq_true rfl⟩) rfl hl.1 rfl (Nat.le_of_ble_eq_true rfl) dL_law_12 ⟨(Nat.le_of_ble_eq_true rfl), (Nat.le_of_ble_eq_true rfl)⟩ hO hN hK hP hD hS hA [89] [0, 1, 2, 3, 4, 5, 6, 7, 8, 9, 10, 11, 12, 13, 14, 15, 16, 17, 18, 19, 20, 21, 22, 23, 24, 25, 26, 27, 28, 29, 30, 31, 32, 33, 34, 35, 36, 37, 38, 39, 40, 41, 42, 43, 44, 45, 46, 47, 48, 49, 50, 51, 52, 53, 54, 55, 56, 57, 58, 59, 60, 61, 62, 63, 64, 65, 66, 67, 68, 69, 70, 71, 72, 73, 74, 75, 76, 77, 78, 79, 80, 81, 82, 83, 84, 85, 86, 87, 88] rfl rfl ⟨rfl, rfl, by decide⟩ (fun u H locs w53 hP hD hS => ?_)
  obtain ⟨ad52, rfl⟩ : ∃ z, z = u := ⟨u, rfl⟩
  have hP : va_P D vwCl [(q1, eEPR t02 a7 a212 w017 y022 s027 h032 g034 u036 v038), (t02, eTxt tb3 tn5), (tb3, eRow tba4 0), (tba4, eArr cI 300 (fun _ => 0)), (tn5, eRow tna6 0), (tna6, eArr cI 3 (fun _ => 0)), (a7, eCan b18 b210 0 10 1 0), (b18, eRow c19 (3 * (0 + 1))), (c19, eArr cI 12 (add3 (fun _ => 0) (3 * 0) 20 2 0)), (b210, eRow c211 (3 * (0 + 1 + 1))), (c211, eArr cI 24 (add3 (add3 (fun _ => 0) (3 * 0) 0 1 50) (3 * (0 + 1)) 3 2 50)), (a212, eCan b313 b415 0 10 1 0), (b313, eRow c314 (3 * 0)), (c314, eArr cI 12 (fun _ => 0)), (b415, eRow c416 (3 * 0)), (c416, eArr cI 24 (fun _ => 0)), (w017, eWay wb18 wl20), (wb18, eRow bb19 0), (bb19, eArr cI 9 (fun _ => 0)), (wl20, eRow bl21 0), (bl21, eArr cI 9 (fun _ => 0)), (y022, eWay yb23 yl25), (yb23, eRow ybb24 0), (ybb24, eArr cI 9 (fun _ => 0)), (yl25, eRow ybl26 0), (ybl26, eArr cI 9 (fun _ => 0)), (s027, eSnd v128 l130), (v128, eRow va29 0), (va29, eArr cI 150 (fun _ => 0)), (l130, eRow la31 0), (la31, eArr cI 150 (fun _ => 0)), (h032, eShe hq33 0), (hq33, eArC cC 8 (fun j => some (qa40 j))), (qa40 0, eCan (qb41 0) (qd43 0) 0 10 1 0), (qb41 0, eRow (qc42 0) (3 * 0)), (qc42 0, eArr cI 12 (fun _ => 0)), (qd43 0, eRow (qe44 0) (3 * 0)), (qe44 0, eArr cI 24 (fun _ => 0)), (qa40 1, eCan (qb41 1) (qd43 1) 0 10 1 0), (qb41 1, eRow (qc42 1) (3 * 0)), (qc42 1, eArr cI 12 (fun _ => 0)), (qd43 1, eRow (qe44 1) (3 * 0)), (qe44 1, eArr cI 24 (fun _ => 0)), (qa40 2, eCan (qb41 2) (qd43 2) 0 10 1 0), (qb41 2, eRow (qc42 2) (3 * 0)), (qc42 2, eArr cI 12 (fun _ => 0)), (qd43 2, eRow (qe44 2) (3 * 0)), (qe44 2, eArr cI 24 (fun _ => 0)), (qa40 3, eCan (qb41 3) (qd43 3) 0 10 1 0), (qb41 3, eRow (qc42 3) (3 * 0)), (qc42 3, eArr cI 12 (fun _ => 0)), (qd43 3, eRow (qe44 3) (3 * 0)), (qe44 3, eArr cI 24 (fun _ => 0)), (qa40 4, eCan (qb41 4) (qd43 4) 0 10 1 0), (qb41 4, eRow (qc42 4) (3 * 0)), (qc42 4, eArr cI 12 (fun _ => 0)), (qd43 4, eRow (qe44 4) (3 * 0)), (qe44 4, eArr cI 24 (fun _ => 0)), (qa40 5, eCan (qb41 5) (qd43 5) 0 10 1 0), (qb41 5, eRow (qc42 5) (3 * 0)), (qc42 5, eArr cI 12 (fun _ => 0)), (qd43 5, eRow (qe44 5) (3 * 0)), (qe44 5, eArr cI 24 (fun _ => 0)), (qa40 6, eCan (qb41 6) (qd43 6) 0 10 1 0), (qb41 6, eRow (qc42 6) (3 * 0)), (qc42 6, eArr cI 12 (fun _ => 0)), (qd43 6, eRow (qe44 6) (3 * 0)), (qe44 6, eArr cI 24 (fun _ => 0)), (qa40 7, eCan (qb41 7) (qd43 7) 0 10 1 0), (qb41 7, eRow (qc42 7) (3 * 0)), (qc42 7, eArr cI 12 (fun _ => 0)), (qd43 7, eRow (qe44 7) (3 * 0)), (qe44 7, eArr cI 24 (fun _ => 0)), (g034, eShe gq35 0), (gq35, eArC cC 2 (fun j => some (ra45 j))), (ra45 0, eCan (rb46 0) (rd48 0) 0 10 1 0), (rb46 0, eRow (rc47 0) (3 * 0)), (rc47 0, eArr cI 12 (fun _ => 0)), (rd48 0, eRow (re49 0) (3 * 0)), (re49 0, eArr cI 24 (fun _ => 0)), (ra45 1, eCan (rb46 1) (rd48 1) 0 10 1 0), (rb46 1, eRow (rc47 1) (3 * 0)), (rc47 1, eArr cI 12 (fun _ => 0)), (rd48 1, eRow (re49 1) (3 * 0)), (re49 1, eArr cI 24 (fun _ => 0)), (u036, eRow ua37 0), (ua37, eArr cI 6 (fun _ => 0)), (v038, eRow ea39 0), (ea39, eArr cI 27 (fun _ => 0)), (q51, eMod ad52 0 0 0 0 0 0), (ad52 1, eArr cI 300 (fun _ => 0)), (ad52 2, eArr cI 2 (upN (upN (fun _ => 0) 0 0) 0 1)), (ad52 3, eArr cI 8 (upN (fun _ => 0) 0 20)), (ad52 4, eArr cI 8 (upN (fun _ => 0) 0 2)), (ad52 5, eArr cI 8 (fun _ => 0)), (ad52 6, eArr cI 2 (upN (fun _ => 0) 0 1)), (ad52 7, eArr cI 4 (upN (upN (fun _ => 0) 0 0) 0 2)), (ad52 8, eArr cI 32 (upN (fun _ => 0) 1 3)), (ad52 9, eArr cI 32 (upN (upN (fun _ => 0) 0 1) 1 2)), (ad52 10, eArr cI 32 (upN (upN (fun _ => 0) 0 50) 1 50)), (ad52 11, eArr cI 4 (upN (fun _ => 0) 0 0)), (ad52 12, eArr cI 4 (upN (fun _ => 0) 0 10)), (ad52 13, eArr cI 4 (upN (fun _ => 0) 0 0)), (ad52 14, eArr cI 32 (fun _ => 0)), (ad52 15, eArr cI 6 (fun _ => 0)), (ad52 16, eArr cI 9 (fun _ => 0)), (ad52 17, eArr cI 9 (fun _ => 0)), (ad52 18, eArr cI 9 (fun _ => 0)), (ad52 19, eArr cI 3 (fun _ => 0)), (ad52 20, eArr cI 150 (fun _ => 0)), (ad52 21, eArr cI 150 (fun _ => 0)), (ad52 22, eArr cI 6 (fun _ => 0))] H := hP
  have hD : va_D A [(q1, eEPR t02 a7 a212 w017 y022 s027 h032 g034 u036 v038), (t02, eTxt tb3 tn5), (tb3, eRow tba4 0), (tba4, eArr cI 300 (fun _ => 0)), (tn5, eRow tna6 0), (tna6, eArr cI 3 (fun _ => 0)), (a7, eCan b18 b210 0 10 1 0), (b18, eRow c19 (3 * (0 + 1))), (c19, eArr cI 12 (add3 (fun _ => 0) (3 * 0) 20 2 0)), (b210, eRow c211 (3 * (0 + 1 + 1))), (c211, eArr cI 24 (add3 (add3 (fun _ => 0) (3 * 0) 0 1 50) (3 * (0 + 1)) 3 2 50)), (a212, eCan b313 b415 0 10 1 0), (b313, eRow c314 (3 * 0)), (c314, eArr cI 12 (fun _ => 0)), (b415, eRow c416 (3 * 0)), (c416, eArr cI 24 (fun _ => 0)), (w017, eWay wb18 wl20), (wb18, eRow bb19 0), (bb19, eArr cI 9 (fun _ => 0)), (wl20, eRow bl21 0), (bl21, eArr cI 9 (fun _ => 0)), (y022, eWay yb23 yl25), (yb23, eRow ybb24 0), (ybb24, eArr cI 9 (fun _ => 0)), (yl25, eRow ybl26 0), (ybl26, eArr cI 9 (fun _ => 0)), (s027, eSnd v128 l130), (v128, eRow va29 0), (va29, eArr cI 150 (fun _ => 0)), (l130, eRow la31 0), (la31, eArr cI 150 (fun _ => 0)), (h032, eShe hq33 0), (hq33, eArC cC 8 (fun j => some (qa40 j))), (qa40 0, eCan (qb41 0) (qd43 0) 0 10 1 0), (qb41 0, eRow (qc42 0) (3 * 0)), (qc42 0, eArr cI 12 (fun _ => 0)), (qd43 0, eRow (qe44 0) (3 * 0)), (qe44 0, eArr cI 24 (fun _ => 0)), (qa40 1, eCan (qb41 1) (qd43 1) 0 10 1 0), (qb41 1, eRow (qc42 1) (3 * 0)), (qc42 1, eArr cI 12 (fun _ => 0)), (qd43 1, eRow (qe44 1) (3 * 0)), (qe44 1, eArr cI 24 (fun _ => 0)), (qa40 2, eCan (qb41 2) (qd43 2) 0 10 1 0), (qb41 2, eRow (qc42 2) (3 * 0)), (qc42 2, eArr cI 12 (fun _ => 0)), (qd43 2, eRow (qe44 2) (3 * 0)), (qe44 2, eArr cI 24 (fun _ => 0)), (qa40 3, eCan (qb41 3) (qd43 3) 0 10 1 0), (qb41 3, eRow (qc42 3) (3 * 0)), (qc42 3, eArr cI 12 (fun _ => 0)), (qd43 3, eRow (qe44 3) (3 * 0)), (qe44 3, eArr cI 24 (fun _ => 0)), (qa40 4, eCan (qb41 4) (qd43 4) 0 10 1 0), (qb41 4, eRow (qc42 4) (3 * 0)), (qc42 4, eArr cI 12 (fun _ => 0)), (qd43 4, eRow (qe44 4) (3 * 0)), (qe44 4, eArr cI 24 (fun _ => 0)), (qa40 5, eCan (qb41 5) (qd43 5) 0 10 1 0), (qb41 5, eRow (qc42 5) (3 * 0)), (qc42 5, eArr cI 12 (fun _ => 0)), (qd43 5, eRow (qe44 5) (3 * 0)), (qe44 5, eArr cI 24 (fun _ => 0)), (qa40 6, eCan (qb41 6) (qd43 6) 0 10 1 0), (qb41 6, eRow (qc42 6) (3 * 0)), (qc42 6, eArr cI 12 (fun _ => 0)), (qd43 6, eRow (qe44 6) (3 * 0)), (qe44 6, eArr cI 24 (fun _ => 0)), (qa40 7, eCan (qb41 7) (qd43 7) 0 10 1 0), (qb41 7, eRow (qc42 7) (3 * 0)), (qc42 7, eArr cI 12 (fun _ => 0)), (qd43 7, eRow (qe44 7) (3 * 0)), (qe44 7, eArr cI 24 (fun _ => 0)), (g034, eShe gq35 0), (gq35, eArC cC 2 (fun j => some (ra45 j))), (ra45 0, eCan (rb46 0) (rd48 0) 0 10 1 0), (rb46 0, eRow (rc47 0) (3 * 0)), (rc47 0, eArr cI 12 (fun _ => 0)), (rd48 0, eRow (re49 0) (3 * 0)), (re49 0, eArr cI 24 (fun _ => 0)), (ra45 1, eCan (rb46 1) (rd48 1) 0 10 1 0), (rb46 1, eRow (rc47 1) (3 * 0)), (rc47 1, eArr cI 12 (fun _ => 0)), (rd48 1, eRow (re49 1) (3 * 0)), (re49 1, eArr cI 24 (fun _ => 0)), (u036, eRow ua37 0), (ua37, eArr cI 6 (fun _ => 0)), (v038, eRow ea39 0), (ea39, eArr cI 27 (fun _ => 0)), (q51, eMod ad52 0 0 0 0 0 0), (ad52 1, eArr cI 300 (fun _ => 0)), (ad52 2, eArr cI 2 (upN (upN (fun _ => 0) 0 0) 0 1)), (ad52 3, eArr cI 8 (upN (fun _ => 0) 0 20)), (ad52 4, eArr cI 8 (upN (fun _ => 0) 0 2)), (ad52 5, eArr cI 8 (fun _ => 0)), (ad52 6, eArr cI 2 (upN (fun _ => 0) 0 1)), (ad52 7, eArr cI 4 (upN (upN (fun _ => 0) 0 0) 0 2)), (ad52 8, eArr cI 32 (upN (fun _ => 0) 1 3)), (ad52 9, eArr cI 32 (upN (upN (fun _ => 0) 0 1) 1 2)), (ad52 10, eArr cI 32 (upN (upN (fun _ => 0) 0 50) 1 50)), (ad52 11, eArr cI 4 (upN (fun _ => 0) 0 0)), (ad52 12, eArr cI 4 (upN (fun _ => 0) 0 10)), (ad52 13, eArr cI 4 (upN (fun _ => 0) 0 0)), (ad52 14, eArr cI 32 (fun _ => 0)), (ad52 15, eArr cI 6 (fun _ => 0)), (ad52 16, eArr cI 9 (fun _ => 0)), (ad52 17, eArr cI 9 (fun _ => 0)), (ad52 18, eArr cI 9 (fun _ => 0)), (ad52 19, eArr cI 3 (fun _ => 0)), (ad52 20, eArr cI 150 (fun _ => 0)), (ad52 21, eArr cI 150 (fun _ => 0)), (ad52 22, eArr cI 6 (fun _ => 0))] := hD
  refine W.widen (k := 112) (n := 2118) (by omega) (by omega) ?_
  refine lv_astore_n (lv' := [(2, .ref q51), (1, .ref q1), (0, .ref b)]) hx hb dL_law_15 rfl hl (by decide) rfl (fun ls hl => ?_)
  refine lv_iconst (v := nI 0) hx hb dL_law_16 (by decide) ?_
  refine lv_istore_n (lv' := [(3, .int (nI 0)), (2, .ref q51), (1, .ref q1), (0, .ref b)]) hx hb dL_law_17 rfl hl (by decide) rfl (fun ls hl => ?_)
  subst hAe
  exact law_loop hL ⟨Nat.le_of_ble_eq_true rfl, Nat.le_of_ble_eq_true rfl⟩ C0 hK (L + 1) 0 (by omega) (by omega) H locs ls (lawI_intro t02 tb3 tba4 tn5 tna6 a7 b18 c19 b210 c211 a212 b313 c314 b415 c416 w017 wb18 bb19 wl20 bl21 y022 yb23 ybb24 yl25 ybl26 s027 v128 va29 l130 la31 h032 hq33 g034 gq35 u036 ua37 v038 ea39 ad52 ra45 rb46 rc47 rd48 re49 qa40 qb41 qc42 qd43 qe44 0 0 0 0 10 1 0 0 0 0 0 0 0 0 0 0 0 (fun _ => 0) (fun _ => 0) (fun _ => 0) (fun _ => 0) (fun _ => 0) (fun _ => 0) (fun _ => 0) (fun _ => 0) (fun _ => 0) (add3 (fun _ => 0) (3 * 0) 20 2 0) (add3 (add3 (fun _ => 0) (3 * 0) 0 1 50) (3 * (0 + 1)) 3 2 50) (fun _ => 0) (fun _ => 0) (upN (upN (fun _ => 0) 0 0) 0 1) (upN (fun _ => 0) 0 20) (upN (fun _ => 0) 0 2) (fun _ => 0) (upN (fun _ => 0) 0 1) (upN (upN (fun _ => 0) 0 0) 0 2) (upN (fun _ => 0) 1 3) (upN (upN (fun _ => 0) 0 1) 1 2) (upN (upN (fun _ => 0) 0 50) 1 50) (upN (fun _ => 0) 0 0) (upN (fun _ => 0) 0 10) (upN (fun _ => 0) 0 0) (fun _ => 0) (fun _ => 0) (fun _ => 0) (fun _ => 0) (fun _ => 0) (fun _ => 0) (fun _ => 0) (fun _ => 0) (fun _ => 0) (fun _ _ => 0) (fun _ => 0) (fun _ _ => 0) (fun _ => 0) (fun _ => 0) (fun _ => 10) (fun _ => 1) (fun _ => 0) (fun _ _ => 0) (fun _ => 0) (fun _ _ => 0) (fun _ => 0) (fun _ => 0) (fun _ => 10) (fun _ => 1) (fun _ => 0) (hP.sub [0, 1, 2, 3, 4, 5, 6, 7, 8, 9, 10, 11, 12, 13, 14, 15, 16, 17, 18, 19, 20, 21, 22, 23, 24, 25, 26, 27, 28, 29, 30, 31, 32, 33, 34, 35, 36, 37, 38, 39, 40, 41, 42, 43, 44, 45, 46, 47, 48, 49, 50, 51, 52, 53, 54, 55, 56, 57, 58, 59, 60, 61, 62, 63, 64, 65, 66, 67, 68, 69, 70, 71, 72, 73, 74, 75, 76, 77, 78, 79, 80, 81, 82, 83, 84, 85, 86, 87, 88, 89, 90, 91, 92, 93, 94, 95, 96, 97, 98, 99, 100, 101, 102, 103, 104, 105, 106, 107, 108, 109, 110, 111] rfl) (hD.sub [0, 1, 2, 3, 4, 5, 6, 7, 8, 9, 10, 11, 12, 13, 14, 15, 16, 17, 18, 19, 20, 21, 22, 23, 24, 25, 26, 27, 28, 29, 30, 31, 32, 33, 34, 35, 36, 37, 38, 39, 40, 41, 42, 43, 44, 45, 46, 47, 48, 49, 50, 51, 52, 53, 54, 55, 56, 57, 58, 59, 60, 61, 62, 63, 64, 65, 66, 67, 68, 69, 70, 71, 72, 73, 74, 75, 76, 77, 78, 79, 80, 81, 82, 83, 84, 85, 86, 87, 88, 89, 90, 91, 92, 93, 94, 95, 96, 97, 98, 99, 100, 101, 102, 103, 104, 105, 106, 107, 108, 109, 110, 111] rfl rfl) (Qtxt_0 _) ⟨fun _ => Nat.succ_pos _, Nat.zero_le _, fun _ => Nat.succ_pos _, Nat.zero_le _, Nat.zero_le _⟩ Qcan_init (Qtalk_0 _) (Qear_0 _ _ _ _) (Qpast_0 (fun _ _ => ⟨Nat.zero_le _, Nat.zero_le _⟩) _ _ _ _ _ _ _ _ _ _ _ _) (Qkept_0 (fun _ _ => ⟨Nat.zero_le _, Nat.zero_le _⟩) _ _ _ _ _ _ _ _ _ _ _ _ _ _ _ _)) hS (lv_sub hl [3, 2, 1, 0] rfl)

