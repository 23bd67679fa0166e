set_option maxRecDepth 100000 in
set_option maxHeartbeats 4000000 in
theorem c_X7_in (l : Launch) (D : va_G) (cI cC : ClassId) (v : Int) (lo : Int) (hi : Int) (hv : -2147483648 ≤ v ∧ v < 2147483648) (hlo : -2147483648 ≤ lo ∧ lo < 2147483648) (hhi : -2147483648 ≤ hi ∧ hi < 2147483648) : mtI l D cI cC yX7_in wsX7_in ({ frames := 0, cells := 0, slots := 0, locals := 0 }) [.long (lI v), .long (lI lo), .long (lI hi)] [] (fun (r : Int32) (_ : Unit) => (r = (nI 1) ∧ lo ≤ v ∧ v ≤ hi) ∨ (r = (nI 0) ∧ (v < lo ∨ hi < v))) (fun (_ : Unit) => []) := by
  refine mtI_of (cc := cX7_in) (maxL := 6) (ret := (some .boolean)) (by decide) rfl rfl ?_
  intro p e s m below meth c A hx hb hml hr hts hown hlocks hN hA hK hP hD hS ls hl
  have hown : s.vm.findClass RX7 = some m.cls := hown
  have hl : lv_has ls 6 [(0, .long (lI v)), (2, .long (lI lo)), (4, .long (lI hi))] := hl
  obtain ⟨H, hHe⟩ : ∃ H, H = s.heap := ⟨_, rfl⟩
  rw [← hHe] at hP ⊢
  have hS : va_S A s.heap H [] := by rw [hHe]; exact va_S.rf
  refine lv_lload_n hx hb dX7_in_0 rfl (lv_at hl 0 rfl) ?_
  refine lv_lload_n hx hb dX7_in_1 rfl (lv_at hl 1 rfl) ?_
  refine W.lcmp hx hb dX7_in_2 ?_
  refine c_if_lt (tgt := 17) hx hb dX7_in_3 (by decide) (by omega) (by omega) (fun h1 => ?_) (fun h1 => ?_)
  · refine lv_iconst (v := (nI 0)) hx hb dX7_in_17 (by decide) ?_
    exact x_iret hx hb hr hlocks dX7_in_18 rfl (post := fun (r : Int32) (_ : Unit) => (r = (nI 1) ∧ lo ≤ v ∧ v ≤ hi) ∨ (r = (nI 0) ∧ (v < lo ∨ hi < v))) (w1 := fun (_ : Unit) => []) () (Or.inr ⟨rfl, (by omega)⟩) hK hP hD hS
  · refine lv_lload_n hx hb dX7_in_6 rfl (lv_at hl 0 rfl) ?_
    refine lv_lload hx hb dX7_in_7 (lv_at hl 2 rfl) ?_
    refine W.lcmp hx hb dX7_in_9 ?_
    refine c_if_gt (tgt := 17) hx hb dX7_in_10 (by decide) (by omega) (by omega) (fun h2 => ?_) (fun h2 => ?_)
    · refine lv_iconst (v := (nI 0)) hx hb dX7_in_17 (by decide) ?_
      exact x_iret hx hb hr hlocks dX7_in_18 rfl (post := fun (r : Int32) (_ : Unit) => (r = (nI 1) ∧ lo ≤ v ∧ v ≤ hi) ∨ (r = (nI 0) ∧ (v < lo ∨ hi < v))) (w1 := fun (_ : Unit) => []) () (Or.inr ⟨rfl, (by omega)⟩) hK hP hD hS
    · refine lv_iconst (v := (nI 1)) hx hb dX7_in_13 (by decide) ?_
      refine lv_goto (tgt := 18) hx hb dX7_in_14 (by decide) ?_
      exact x_iret hx hb hr hlocks dX7_in_18 rfl (post := fun (r : Int32) (_ : Unit) => (r = (nI 1) ∧ lo ≤ v ∧ v ≤ hi) ∨ (r = (nI 0) ∧ (v < lo ∨ hi < v))) (w1 := fun (_ : Unit) => []) () (Or.inl ⟨rfl, (by omega), (by omega)⟩) hK hP hD hS

set_option maxRecDepth 100000 in
set_option maxHeartbeats 4000000 in
theorem c_X7_has (l : Launch) (D : va_G) (cI cC : ClassId) (set : Nat) (i : Nat) (hset : set < 2147483648) (hi : i < 31) : mtI l D cI cC yX7_has wsX7_has ({ frames := 0, cells := 0, slots := 0, locals := 0 }) [.int (nI set), .int (nI i)] [] (fun (r : Int32) (_ : Unit) => (r = (nI 1) ∧ set / 2 ^ i % 2 = 1) ∨ (r = (nI 0) ∧ ¬ set / 2 ^ i % 2 = 1)) (fun (_ : Unit) => []) := by
  refine mtI_of (cc := cX7_has) (maxL := 2) (ret := (some .boolean)) (by decide) rfl rfl ?_
  intro p e s m below meth c A hx hb hml hr hts hown hlocks hN hA hK hP hD hS ls hl
  have hown : s.vm.findClass RX7 = some m.cls := hown
  have hl : lv_has ls 2 [(0, .int (nI set)), (1, .int (nI i))] := hl
  obtain ⟨H, hHe⟩ : ∃ H, H = s.heap := ⟨_, rfl⟩
  rw [← hHe] at hP ⊢
  have hS : va_S A s.heap H [] := by rw [hHe]; exact va_S.rf
  refine lv_iload_n hx hb dX7_has_0 rfl (lv_at hl 0 rfl) ?_
  refine lv_iload_n hx hb dX7_has_1 rfl (lv_at hl 1 rfl) ?_
  refine x_ishr hx hb dX7_has_2 (by omega) (by omega) ?_
  refine lv_iconst (v := (nI 1)) hx hb dX7_has_3 (by decide) ?_
  refine x_iand1 hx hb dX7_has_4 ?_
  refine lv_iconst (v := (nI 1)) hx hb dX7_has_5 (by decide) ?_
  refine x_icmp_ne (tgt := 13) hx hb dX7_has_6 (by decide) (by omega) (by omega) (fun h1 => ?_) (fun h1 => ?_)
  · refine lv_iconst (v := (nI 0)) hx hb dX7_has_13 (by decide) ?_
    exact x_iret hx hb hr hlocks dX7_has_14 rfl (post := fun (r : Int32) (_ : Unit) => (r = (nI 1) ∧ set / 2 ^ i % 2 = 1) ∨ (r = (nI 0) ∧ ¬ set / 2 ^ i % 2 = 1)) (w1 := fun (_ : Unit) => []) () (Or.inr ⟨rfl, (by omega)⟩) hK hP hD hS
  · refine lv_iconst (v := (nI 1)) hx hb dX7_has_9 (by decide) ?_
    refine lv_goto (tgt := 14) hx hb dX7_has_10 (by decide) ?_
    exact x_iret hx hb hr hlocks dX7_has_14 rfl (post := fun (r : Int32) (_ : Unit) => (r = (nI 1) ∧ set / 2 ^ i % 2 = 1) ∨ (r = (nI 0) ∧ ¬ set / 2 ^ i % 2 = 1)) (w1 := fun (_ : Unit) => []) () (Or.inl ⟨rfl, (by omega)⟩) hK hP hD hS

set_option maxRecDepth 100000 in
set_option maxHeartbeats 4000000 in
theorem c_X7_bits (l : Launch) (D : va_G) (cI cC : ClassId) (set : Nat) (hset : set < 4096) : mtI l D cI cC yX7_bits wsX7_bits ({ frames := 0, cells := 0, slots := 0, locals := 0 }) [.int (nI set)] [] (fun (r : Int32) (_ : Unit) => r = (nI (popM set))) (fun (_ : Unit) => []) := by
  refine mtI_of (cc := cX7_bits) (maxL := 3) (ret := (some .int)) (by decide) rfl rfl ?_
  intro p e s m below meth c A hx hb hml hr hts hown hlocks hN hA hK hP hD hS ls hl
  have hown : s.vm.findClass RX7 = some m.cls := hown
  have hl : lv_has ls 3 [(0, .int (nI set))] := hl
  obtain ⟨H, hHe⟩ : ∃ H, H = s.heap := ⟨_, rfl⟩
  rw [← hHe] at hP ⊢
  have hS : va_S A s.heap H [] := by rw [hHe]; exact va_S.rf
  refine lv_iconst (v := (nI 0)) hx hb dX7_bits_0 (by decide) ?_
  refine lv_istore_n (lv' := [(1, .int (nI 0)), (0, .int (nI set))]) hx hb dX7_bits_1 rfl hl (by decide) rfl (fun ls hl => ?_)
  refine lv_iload_n hx hb dX7_bits_2 rfl (lv_at hl 1 rfl) ?_
  refine lv_istore_n (lv' := [(2, .int (nI set)), (1, .int (nI 0)), (0, .int (nI set))]) hx hb dX7_bits_3 rfl hl (by decide) rfl (fun ls hl => ?_)
  have loop4 : ∀ (nn4 : Nat) (k : Nat) (q : Nat), k < nn4 → (k < 4096) → (q + popM k = popM set) → (q ≤ 12) → ∀ (H : Heap) (locs : List Loc), va_P D vwCl [] H → va_D A [] → va_S A s.heap H locs → ∀ ls : Array Slot, lv_has ls 3 [(2, .int (nI k)), (1, .int (nI q)), (0, .int (nI set))] → W p l e (headSpec wsX7_bits ({ frames := 0, cells := 0, slots := 0, locals := 0 })).room s m ([.int (nI set)] : List Value).toArray below meth c H locs 0 0 (MQ below (va_Qi (fun (r : Int32) (_ : Unit) => r = (nI (popM set))) (ctB D cI cC (fun (_ : Unit) => []) A) A) ([.int (nI set)] : List Value).toArray s 0 0 A) (F0 m 4 ls []) := by
    intro nn4
    induction nn4 with
    | zero =>
      intro k q hm1
      exact absurd hm1 (Nat.not_lt_zero _)
    | succ nn4 ih4 =>
      intro k q hm1 hi2 hpk hi3 H locs hP hD hS ls hl
      refine lv_iload_n hx hb dX7_bits_4 rfl (lv_at hl 0 rfl) ?_
      refine x_if_eq (tgt := 20) hx hb dX7_bits_5 (by decide) (by omega) (fun h4 => ?_) (fun h4 => ?_)
      · refine lv_iload_n hx hb dX7_bits_20 rfl (lv_at hl 1 rfl) ?_
        exact x_iret hx hb hr hlocks dX7_bits_21 rfl (post := fun (r : Int32) (_ : Unit) => r = (nI (popM set))) (w1 := fun (_ : Unit) => []) () (congrArg nI (by have h1 : k = 0 := (by omega); rw [h1, popM_0] at hpk; omega)) hK hP hD hS
      · have f5 : 1 ≤ k := by omega
        refine lv_iinc (v := (nI (q + 1))) (lv' := [(1, .int (nI (q + 1))), (2, .int (nI k)), (0, .int (nI set))]) hx hb dX7_bits_8 hl (k := 1) rfl (nI_inc _ 1) (by decide) rfl (fun ls hl => ?_)
        have hle : k &&& (k - 1) ≤ k - 1 := Nat.and_le_right
        refine lv_iload_n hx hb dX7_bits_11 rfl (lv_at hl 1 rfl) ?_
        refine lv_iload_n hx hb dX7_bits_12 rfl (lv_at hl 1 rfl) ?_
        refine lv_iconst (v := (nI 1)) hx hb dX7_bits_13 (by decide) ?_
        refine x_isub hx hb dX7_bits_14 (by omega) ?_
        refine x_iandN hx hb dX7_bits_15 ?_
        refine lv_istore_n (lv' := [(2, .int (nI ((k) &&& (k - 1)))), (1, .int (nI (q + 1))), (0, .int (nI set))]) hx hb dX7_bits_16 rfl hl (by decide) rfl (fun ls hl => ?_)
        refine lv_goto (tgt := 4) hx hb dX7_bits_17 (by decide) ?_
        exact ih4 ((k) &&& (k - 1)) (q + 1) (by omega) (Nat.lt_of_le_of_lt Nat.and_le_left (by omega)) (by have h1 := popM_pred k (by omega) (by omega); omega) (by have h1 := popM_pred k (by omega) (by omega); have h2 := popM_le (k &&& (k - 1)); have h3 := popM_le set; omega) _ _ (hP.sub [] rfl) (hD.sub [] rfl rfl) hS _ (lv_sub hl [0, 1, 2] rfl)
  exact loop4 _ set 0 (Nat.lt_succ_self _) (by omega) (by omega) (by omega) _ _ (hP.sub [] rfl) (hD.sub [] rfl rfl) hS _ (lv_sub hl [0, 1, 2] rfl)

set_option maxRecDepth 100000 in
set_option maxHeartbeats 4000000 in
theorem c_X7_away (l : Launch) (D : va_G) (cI cC : ClassId) (x : Nat) (y : Nat) (hxy : x < 2147483648 ∧ y < 2147483648) : mtI l D cI cC yX7_away wsX7_away ({ frames := 0, cells := 0, slots := 0, locals := 0 }) [.int (nI x), .int (nI y)] [] (fun (r : Int32) (_ : Unit) => r = (nI (absd x y))) (fun (_ : Unit) => []) := by
  refine mtI_of (cc := cX7_away) (maxL := 2) (ret := (some .int)) (by decide) rfl rfl ?_
  intro p e s m below meth c A hx hb hml hr hts hown hlocks hN hA hK hP hD hS ls hl
  have hown : s.vm.findClass RX7 = some m.cls := hown
  have hl : lv_has ls 2 [(0, .int (nI x)), (1, .int (nI y))] := hl
  obtain ⟨H, hHe⟩ : ∃ H, H = s.heap := ⟨_, rfl⟩
  rw [← hHe] at hP ⊢
  have hS : va_S A s.heap H [] := by rw [hHe]; exact va_S.rf
  refine lv_iload_n hx hb dX7_away_0 rfl (lv_at hl 0 rfl) ?_
  refine lv_iload_n hx hb dX7_away_1 rfl (lv_at hl 1 rfl) ?_
  refine x_icmp_ge (tgt := 11) hx hb dX7_away_2 (by decide) (by omega) (by omega) (fun h1 => ?_) (fun h1 => ?_)
  · refine lv_iload_n hx hb dX7_away_11 rfl (lv_at hl 0 rfl) ?_
    refine lv_iload_n hx hb dX7_away_12 rfl (lv_at hl 1 rfl) ?_
    refine x_isub hx hb dX7_away_13 (by omega) ?_
    exact x_iret hx hb hr hlocks dX7_away_14 rfl (post := fun (r : Int32) (_ : Unit) => r = (nI (absd x y))) (w1 := fun (_ : Unit) => []) () (congrArg nI (by unfold absd; first | rw [if_pos (by omega)] | rw [if_neg (by omega)])) hK hP hD hS
  · refine lv_iload_n hx hb dX7_away_5 rfl (lv_at hl 1 rfl) ?_
    refine lv_iload_n hx hb dX7_away_6 rfl (lv_at hl 0 rfl) ?_
    refine x_isub hx hb dX7_away_7 (by omega) ?_
    refine lv_goto (tgt := 14) hx hb dX7_away_8 (by decide) ?_
    exact x_iret hx hb hr hlocks dX7_away_14 rfl (post := fun (r : Int32) (_ : Unit) => r = (nI (absd x y))) (w1 := fun (_ : Unit) => []) () (congrArg nI (by unfold absd; first | rw [if_pos (by omega)] | rw [if_neg (by omega)])) hK hP hD hS

set_option maxRecDepth 100000 in
set_option maxHeartbeats 4000000 in
theorem c_X7_quiet (l : Launch) (D : va_G) (cI cC : ClassId) (rr : Nat) (ad : Nat → Nat) (len : Nat) (kp : Nat) (uo : Nat) (tm : Nat) (em : Nat) (pc0 : Nat) (lg : Nat → Nat) (vg : Nat → Nat) : mtV l D cI cC yX7_quiet wsX7_quiet ({ frames := 0, cells := 0, slots := 0, locals := 0 }) [.ref rr] [(rr, eMod ad len kp uo tm em pc0), (ad 20, eArr cI 150 lg), (ad 21, eArr cI 150 vg)] (fun (_ : Unit) => True) (fun (_ : Unit) => [(rr, eMod ad len kp uo tm em pc0), (ad 20, eArr cI 150 quietM.1), (ad 21, eArr cI 150 quietM.2)]) := by
  refine mtV_of (cc := cX7_quiet) (maxL := 2) (ret := none) (by decide) rfl rfl ?_
  intro p e s m below meth c A hx hb hml hr hts hown hlocks hN hA hK hP hD hS ls hl
  have hown : s.vm.findClass RX7 = some m.cls := hown
  have hl : lv_has ls 2 [(0, .ref rr)] := hl
  obtain ⟨H, hHe⟩ : ∃ H, H = s.heap := ⟨_, rfl⟩
  rw [← hHe] at hP ⊢
  have hS : va_S A s.heap H [] := by rw [hHe]; exact va_S.rf
  have fl67 := hts (.fieldLink RX7 67 "EchoPaysRentModel" "loudest" "[I") (by decide +kernel)
  have inX7 : ∀ w ∈ wsX70, w ∈ wsX7_quiet := by decide +kernel
  have fl70 := hts (.fieldLink RX7 70 "EchoPaysRentModel" "what" "[I") (by decide +kernel)
  refine lv_iconst (v := (nI 0)) hx hb dX7_quiet_0 (by decide) ?_
  refine lv_istore_n (lv' := [(1, .int (nI 0)), (0, .ref rr)]) hx hb dX7_quiet_1 rfl hl (by decide) rfl (fun ls hl => ?_)
  have loop2 : ∀ (nn2 : Nat) (i : Nat) (lg' : Nat → Nat) (vg' : Nat → Nat), 150 - i < nn2 → (i ≤ 150) → (∀ j, j < i → lg' j = 0) → (∀ j, j < i → vg' j = 0) → ∀ (H : Heap) (locs : List Loc), va_P D vwCl [(rr, eMod ad len kp uo tm em pc0), (ad 20, eArr cI 150 lg'), (ad 21, eArr cI 150 vg')] H → va_D A [(rr, eMod ad len kp uo tm em pc0), (ad 20, eArr cI 150 lg'), (ad 21, eArr cI 150 vg')] → va_S A s.heap H locs → ∀ ls : Array Slot, lv_has ls 2 [(1, .int (nI i)), (0, .ref rr)] → W p l e (headSpec wsX7_quiet ({ frames := 0, cells := 0, slots := 0, locals := 0 })).room s m ([.ref rr] : List Value).toArray below meth c H locs 0 0 (MQ below (va_Qv (fun (_ : Unit) => True) (ctB D cI cC (fun (_ : Unit) => [(rr, eMod ad len kp uo tm em pc0), (ad 20, eArr cI 150 quietM.1), (ad 21, eArr cI 150 quietM.2)]) A) A) ([.ref rr] : List Value).toArray s 0 0 A) (F0 m 2 ls []) := by
    intro nn2
    induction nn2 with
    | zero =>
      intro i lg' vg' hm1
      exact absurd hm1 (Nat.not_lt_zero _)
    | succ nn2 ih2 =>
      intro i lg' vg' hm1 hi2 hf1 hf2 H locs hP hD hS ls hl
      refine lv_iload_n hx hb dX7_quiet_2 rfl (lv_at hl 0 rfl) ?_
      refine lv_sipush (v := (nI 150)) hx hb dX7_quiet_3 (by decide) ?_
      refine x_icmp_ge (tgt := 29) hx hb dX7_quiet_6 (by decide) (by omega) (by omega) (fun h3 => ?_) (fun h3 => ?_)
      · have hP := va_P_arr (g' := fun _ => 0) hP 1 rfl (fun j hj => hf1 j (by omega))
        have hD := hD.set (p := 1) (e := eArr cI 150 (fun _ => 0)) rfl
        have hP : va_P D vwCl [(rr, eMod ad len kp uo tm em pc0), (ad 20, eArr cI 150 (fun _ => 0)), (ad 21, eArr cI 150 vg')] H := hP
        have hD : va_D A [(rr, eMod ad len kp uo tm em pc0), (ad 20, eArr cI 150 (fun _ => 0)), (ad 21, eArr cI 150 vg')] := hD
        have hP := va_P_arr (g' := fun _ => 0) hP 2 rfl (fun j hj => hf2 j (by omega))
        have hD := hD.set (p := 2) (e := eArr cI 150 (fun _ => 0)) rfl
        have hP : va_P D vwCl [(rr, eMod ad len kp uo tm em pc0), (ad 20, eArr cI 150 (fun _ => 0)), (ad 21, eArr cI 150 (fun _ => 0))] H := hP
        have hD : va_D A [(rr, eMod ad len kp uo tm em pc0), (ad 20, eArr cI 150 (fun _ => 0)), (ad 21, eArr cI 150 (fun _ => 0))] := hD
        have hP : va_P D vwCl [(rr, eMod ad len kp uo tm em pc0), (ad 20, eArr cI 150 quietM.1), (ad 21, eArr cI 150 quietM.2)] H := hP
        have hD : va_D A [(rr, eMod ad len kp uo tm em pc0), (ad 20, eArr cI 150 quietM.1), (ad 21, eArr cI 150 quietM.2)] := hD
        exact x_vret hx hb hr hlocks dX7_quiet_29 (post := fun (_ : Unit) => True) (w1 := fun (_ : Unit) => [(rr, eMod ad len kp uo tm em pc0), (ad 20, eArr cI 150 quietM.1), (ad 21, eArr cI 150 quietM.2)]) () trivial hK hP hD hS
      · refine lv_aload_n hx hb dX7_quiet_9 rfl (lv_at hl 1 rfl) ?_
        refine va_get (D := D) (ci := 7) (v := .ref (ad 20)) (C := RX7) (T := TX7) (N := 28) hx hb hts inX7 hown hK hP 0 rfl rfl 25 (by decide) fl67 (fun _ h9 => h9) rfl dX7_quiet_10 ?_
        refine lv_iload_n hx hb dX7_quiet_13 rfl (lv_at hl 0 rfl) ?_
        refine lv_iconst (v := (nI 0)) hx hb dX7_quiet_14 (by decide) ?_
        refine x_iast (A := A) hx hb hK hP hD hS 1 0 rfl rfl dX7_quiet_15 (by omega) (by omega) (fun H locs hP hD hS => ?_)
        have hP : va_P D vwCl [(rr, eMod ad len kp uo tm em pc0), (ad 20, eArr cI 150 (upN lg' i 0)), (ad 21, eArr cI 150 vg')] H := by have h := hP; rw [upd_nI] at h; exact h
        have hD : va_D A [(rr, eMod ad len kp uo tm em pc0), (ad 20, eArr cI 150 (upN lg' i 0)), (ad 21, eArr cI 150 vg')] := by have h := hD; rw [upd_nI] at h; exact h
        refine lv_aload_n hx hb dX7_quiet_16 rfl (lv_at hl 1 rfl) ?_
        refine va_get (D := D) (ci := 7) (v := .ref (ad 21)) (C := RX7) (T := TX7) (N := 28) hx hb hts inX7 hown hK hP 0 rfl rfl 26 (by decide) fl70 (fun _ h9 => h9) rfl dX7_quiet_17 ?_
        refine lv_iload_n hx hb dX7_quiet_20 rfl (lv_at hl 0 rfl) ?_
        refine lv_iconst (v := (nI 0)) hx hb dX7_quiet_21 (by decide) ?_
        refine x_iast (A := A) hx hb hK hP hD hS 2 0 rfl rfl dX7_quiet_22 (by omega) (by omega) (fun H locs hP hD hS => ?_)
        have hP : va_P D vwCl [(rr, eMod ad len kp uo tm em pc0), (ad 20, eArr cI 150 (upN lg' i 0)), (ad 21, eArr cI 150 (upN vg' i 0))] H := by have h := hP; rw [upd_nI] at h; exact h
        have hD : va_D A [(rr, eMod ad len kp uo tm em pc0), (ad 20, eArr cI 150 (upN lg' i 0)), (ad 21, eArr cI 150 (upN vg' i 0))] := by have h := hD; rw [upd_nI] at h; exact h
        refine lv_iinc (v := (nI (i + 1))) (lv' := [(1, .int (nI (i + 1))), (0, .ref rr)]) hx hb dX7_quiet_23 hl (k := 0) rfl (nI_inc _ 1) (by decide) rfl (fun ls hl => ?_)
        refine lv_goto (tgt := 2) hx hb dX7_quiet_26 (by decide) ?_
        exact ih2 (i + 1) (upN lg' i 0) (upN vg' i 0) (by omega) (by omega) (quiet_step hf1) (quiet_step hf2) _ _ (hP.sub [0, 1, 2] rfl) (hD.sub [0, 1, 2] rfl rfl) hS _ (lv_sub hl [0, 1] rfl)
  exact loop2 _ 0 lg vg (Nat.lt_succ_self _) (by omega) (fun j hj => absurd hj (Nat.not_lt_zero j)) (fun j hj => absurd hj (Nat.not_lt_zero j)) _ _ (hP.sub [0, 1, 2] rfl) (hD.sub [0, 1, 2] rfl rfl) hS _ (lv_sub hl [0, 1] rfl)

set_option maxRecDepth 100000 in
set_option maxHeartbeats 4000000 in
theorem c_X7_comes (l : Launch) (D : va_G) (cI cC : ClassId) (rr : Nat) (ad : Nat → Nat) (len : Nat) (kp : Nat) (uo : Nat) (tm : Nat) (em : Nat) (pc0 : Nat) (S : Snd) (b : Nat) (z : Int) (v : Nat) (hb1 : b < 2147483648) (hz : -2147483648 ≤ z ∧ z < 2147483648) (hv : v < 2147483648) (hS0 : okS S) : mtV l D cI cC yX7_comes wsX7_comes ({ frames := 0, cells := 0, slots := 0, locals := 0 }) [.ref rr, .int (nI b), .int (nI v), .int (iI z)] [(rr, eMod ad len kp uo tm em pc0), (ad 20, eArr cI 150 S.1), (ad 21, eArr cI 150 S.2)] (fun (_ : Unit) => True) (fun (_ : Unit) => [(rr, eMod ad len kp uo tm em pc0), (ad 20, eArr cI 150 ((comeM S b z v).1)), (ad 21, eArr cI 150 ((comeM S b z v).2))]) := by
  refine mtV_of (cc := cX7_comes) (maxL := 4) (ret := none) (by decide) rfl rfl ?_
  intro p e s m below meth c A hx hb hml hr hts hown hlocks hN hA hK hP hD hS ls hl
  have hown : s.vm.findClass RX7 = some m.cls := hown
  have hl : lv_has ls 4 [(0, .ref rr), (1, .int (nI b)), (2, .int (nI v)), (3, .int (iI z))] := hl
  obtain ⟨H, hHe⟩ : ∃ H, H = s.heap := ⟨_, rfl⟩
  rw [← hHe] at hP ⊢
  have hS : va_S A s.heap H [] := by rw [hHe]; exact va_S.rf
  have fl67 := hts (.fieldLink RX7 67 "EchoPaysRentModel" "loudest" "[I") (by decide +kernel)
  have inX7 : ∀ w ∈ wsX70, w ∈ wsX7_comes := by decide +kernel
  have fl70 := hts (.fieldLink RX7 70 "EchoPaysRentModel" "what" "[I") (by decide +kernel)
  have hSb := hS0 b
  refine lv_iload_n hx hb dX7_comes_0 rfl (lv_at hl 1 rfl) ?_
  refine lv_sipush (v := (nI 150)) hx hb dX7_comes_1 (by decide) ?_
  refine x_icmp_ge (tgt := 60) hx hb dX7_comes_4 (by decide) (by omega) (by omega) (fun h1 => ?_) (fun h1 => ?_)
  · have e2 : comeM S b z v = S := by first | exact comeM_low (by omega) | exact comeM_ge (by omega)
    have hP : va_P D vwCl [(rr, eMod ad len kp uo tm em pc0), (ad 20, eArr cI 150 ((comeM S b z v).1)), (ad 21, eArr cI 150 ((comeM S b z v).2))] H := by rw [e2]; exact hP
    have hD : va_D A [(rr, eMod ad len kp uo tm em pc0), (ad 20, eArr cI 150 ((comeM S b z v).1)), (ad 21, eArr cI 150 ((comeM S b z v).2))] := by rw [e2]; exact hD
    exact x_vret hx hb hr hlocks dX7_comes_60 (post := fun (_ : Unit) => True) (w1 := fun (_ : Unit) => [(rr, eMod ad len kp uo tm em pc0), (ad 20, eArr cI 150 ((comeM S b z v).1)), (ad 21, eArr cI 150 ((comeM S b z v).2))]) () trivial hK hP hD hS
  · refine lv_iload_n hx hb dX7_comes_7 rfl (lv_at hl 3 rfl) ?_
    refine z_if_le (tgt := 60) hx hb dX7_comes_8 (by decide) (by omega) (fun h3 => ?_) (fun h3 => ?_)
    · have e4 : comeM S b z v = S := by first | exact comeM_low (by omega) | exact comeM_ge (by omega)
      have hP : va_P D vwCl [(rr, eMod ad len kp uo tm em pc0), (ad 20, eArr cI 150 ((comeM S b z v).1)), (ad 21, eArr cI 150 ((comeM S b z v).2))] H := by rw [e4]; exact hP
      have hD : va_D A [(rr, eMod ad len kp uo tm em pc0), (ad 20, eArr cI 150 ((comeM S b z v).1)), (ad 21, eArr cI 150 ((comeM S b z v).2))] := by rw [e4]; exact hD
      exact x_vret hx hb hr hlocks dX7_comes_60 (post := fun (_ : Unit) => True) (w1 := fun (_ : Unit) => [(rr, eMod ad len kp uo tm em pc0), (ad 20, eArr cI 150 ((comeM S b z v).1)), (ad 21, eArr cI 150 ((comeM S b z v).2))]) () trivial hK hP hD hS
    · refine lv_iload_n hx hb dX7_comes_11 rfl (lv_at hl 3 rfl) ?_
      refine lv_aload_n hx hb dX7_comes_12 rfl (lv_at hl 0 rfl) ?_
      refine va_get (D := D) (ci := 7) (v := .ref (ad 20)) (C := RX7) (T := TX7) (N := 28) hx hb hts inX7 hown hK hP 0 rfl rfl 25 (by decide) fl67 (fun _ h9 => h9) rfl dX7_comes_13 ?_
      refine lv_iload_n hx hb dX7_comes_16 rfl (lv_at hl 1 rfl) ?_
      refine x_iald (A := A) hx hb hK hP 1 0 rfl rfl dX7_comes_17 (by omega) (by omega) ?_
      refine x_top (nI_iI _) ?_
      refine z_icmp_lt (tgt := 60) hx hb dX7_comes_18 (by decide) (by omega) (by omega) (fun h5 => ?_) (fun h5 => ?_)
      · have e6 : comeM S b z v = S := by first | exact comeM_low (by omega) | exact comeM_ge (by omega)
        have hP : va_P D vwCl [(rr, eMod ad len kp uo tm em pc0), (ad 20, eArr cI 150 ((comeM S b z v).1)), (ad 21, eArr cI 150 ((comeM S b z v).2))] H := by rw [e6]; exact hP
        have hD : va_D A [(rr, eMod ad len kp uo tm em pc0), (ad 20, eArr cI 150 ((comeM S b z v).1)), (ad 21, eArr cI 150 ((comeM S b z v).2))] := by rw [e6]; exact hD
        exact x_vret hx hb hr hlocks dX7_comes_60 (post := fun (_ : Unit) => True) (w1 := fun (_ : Unit) => [(rr, eMod ad len kp uo tm em pc0), (ad 20, eArr cI 150 ((comeM S b z v).1)), (ad 21, eArr cI 150 ((comeM S b z v).2))]) () trivial hK hP hD hS
      · obtain ⟨zn, hzn⟩ : ∃ n : Nat, z = (n : Int) := ⟨z.toNat, by omega⟩
        rw [hzn, ← nI_iI] at hl
        refine lv_aload_n hx hb dX7_comes_21 rfl (lv_at hl 0 rfl) ?_
        refine va_get (D := D) (ci := 7) (v := .ref (ad 21)) (C := RX7) (T := TX7) (N := 28) hx hb hts inX7 hown hK hP 0 rfl rfl 26 (by decide) fl70 (fun _ h9 => h9) rfl dX7_comes_22 ?_
        refine lv_iload_n hx hb dX7_comes_25 rfl (lv_at hl 1 rfl) ?_
        refine lv_iload_n hx hb dX7_comes_26 rfl (lv_at hl 3 rfl) ?_
        refine lv_aload_n hx hb dX7_comes_27 rfl (lv_at hl 0 rfl) ?_
        refine va_get (D := D) (ci := 7) (v := .ref (ad 20)) (C := RX7) (T := TX7) (N := 28) hx hb hts inX7 hown hK hP 0 rfl rfl 25 (by decide) fl67 (fun _ h9 => h9) rfl dX7_comes_28 ?_
        refine lv_iload_n hx hb dX7_comes_31 rfl (lv_at hl 1 rfl) ?_
        refine x_iald (A := A) hx hb hK hP 1 0 rfl rfl dX7_comes_32 (by omega) (by omega) ?_
        refine x_icmp_gt (tgt := 46) hx hb dX7_comes_33 (by decide) (by omega) (by omega) (fun h7 => ?_) (fun h7 => ?_)
        · refine lv_iload_n hx hb dX7_comes_46 rfl (lv_at hl 2 rfl) ?_
          refine lv_goto (tgt := 52) hx hb dX7_comes_47 (by decide) ?_
          refine x_iast (A := A) hx hb hK hP hD hS 2 0 rfl rfl dX7_comes_52 (by omega) (by omega) (fun H locs hP hD hS => ?_)
          have hP : va_P D vwCl [(rr, eMod ad len kp uo tm em pc0), (ad 20, eArr cI 150 S.1), (ad 21, eArr cI 150 (upN S.2 b v))] H := by have h := hP; rw [upd_nI] at h; exact h
          have hD : va_D A [(rr, eMod ad len kp uo tm em pc0), (ad 20, eArr cI 150 S.1), (ad 21, eArr cI 150 (upN S.2 b v))] := by have h := hD; rw [upd_nI] at h; exact h
          refine lv_aload_n hx hb dX7_comes_53 rfl (lv_at hl 0 rfl) ?_
          refine va_get (D := D) (ci := 7) (v := .ref (ad 20)) (C := RX7) (T := TX7) (N := 28) hx hb hts inX7 hown hK hP 0 rfl rfl 25 (by decide) fl67 (fun _ h9 => h9) rfl dX7_comes_54 ?_
          refine lv_iload_n hx hb dX7_comes_57 rfl (lv_at hl 1 rfl) ?_
          refine lv_iload_n hx hb dX7_comes_58 rfl (lv_at hl 3 rfl) ?_
          refine x_iast (A := A) hx hb hK hP hD hS 1 0 rfl rfl dX7_comes_59 (by omega) (by omega) (fun H locs hP hD hS => ?_)
          have hP : va_P D vwCl [(rr, eMod ad len kp uo tm em pc0), (ad 20, eArr cI 150 (upN S.1 b zn)), (ad 21, eArr cI 150 (upN S.2 b v))] H := by have h := hP; rw [upd_nI] at h; exact h
          have hD : va_D A [(rr, eMod ad len kp uo tm em pc0), (ad 20, eArr cI 150 (upN S.1 b zn)), (ad 21, eArr cI 150 (upN S.2 b v))] := by have h := hD; rw [upd_nI] at h; exact h
          have e8 : comeM S b z v = (upN S.1 b zn, upN S.2 b v) := by rw [hzn, comeM_set (by omega) (by omega) (by omega)]; first | rw [if_pos (by omega)] | rw [if_neg (by omega)]
          have hP : va_P D vwCl [(rr, eMod ad len kp uo tm em pc0), (ad 20, eArr cI 150 ((comeM S b z v).1)), (ad 21, eArr cI 150 ((comeM S b z v).2))] H := by rw [e8]; exact hP
          have hD : va_D A [(rr, eMod ad len kp uo tm em pc0), (ad 20, eArr cI 150 ((comeM S b z v).1)), (ad 21, eArr cI 150 ((comeM S b z v).2))] := by rw [e8]; exact hD
          exact x_vret hx hb hr hlocks dX7_comes_60 (post := fun (_ : Unit) => True) (w1 := fun (_ : Unit) => [(rr, eMod ad len kp uo tm em pc0), (ad 20, eArr cI 150 ((comeM S b z v).1)), (ad 21, eArr cI 150 ((comeM S b z v).2))]) () trivial hK hP hD hS
        · refine lv_aload_n hx hb dX7_comes_36 rfl (lv_at hl 0 rfl) ?_
          refine va_get (D := D) (ci := 7) (v := .ref (ad 21)) (C := RX7) (T := TX7) (N := 28) hx hb hts inX7 hown hK hP 0 rfl rfl 26 (by decide) fl70 (fun _ h9 => h9) rfl dX7_comes_37 ?_
          refine lv_iload_n hx hb dX7_comes_40 rfl (lv_at hl 1 rfl) ?_
          refine x_iald (A := A) hx hb hK hP 2 0 rfl rfl dX7_comes_41 (by omega) (by omega) ?_
          refine lv_iload_n hx hb dX7_comes_42 rfl (lv_at hl 2 rfl) ?_
          refine x_icmp_ne (tgt := 50) hx hb dX7_comes_43 (by decide) (by omega) (by omega) (fun h9 => ?_) (fun h9 => ?_)
          · refine lv_bipush (v := (nI 8)) hx hb dX7_comes_50 (by decide) ?_
            refine x_iast (A := A) hx hb hK hP hD hS 2 0 rfl rfl dX7_comes_52 (by omega) (by omega) (fun H locs hP hD hS => ?_)
            have hP : va_P D vwCl [(rr, eMod ad len kp uo tm em pc0), (ad 20, eArr cI 150 S.1), (ad 21, eArr cI 150 (upN S.2 b 8))] H := by have h := hP; rw [upd_nI] at h; exact h
            have hD : va_D A [(rr, eMod ad len kp uo tm em pc0), (ad 20, eArr cI 150 S.1), (ad 21, eArr cI 150 (upN S.2 b 8))] := by have h := hD; rw [upd_nI] at h; exact h
            refine lv_aload_n hx hb dX7_comes_53 rfl (lv_at hl 0 rfl) ?_
            refine va_get (D := D) (ci := 7) (v := .ref (ad 20)) (C := RX7) (T := TX7) (N := 28) hx hb hts inX7 hown hK hP 0 rfl rfl 25 (by decide) fl67 (fun _ h9 => h9) rfl dX7_comes_54 ?_
            refine lv_iload_n hx hb dX7_comes_57 rfl (lv_at hl 1 rfl) ?_
            refine lv_iload_n hx hb dX7_comes_58 rfl (lv_at hl 3 rfl) ?_
            refine x_iast (A := A) hx hb hK hP hD hS 1 0 rfl rfl dX7_comes_59 (by omega) (by omega) (fun H locs hP hD hS => ?_)
            have hP : va_P D vwCl [(rr, eMod ad len kp uo tm em pc0), (ad 20, eArr cI 150 (upN S.1 b zn)), (ad 21, eArr cI 150 (upN S.2 b 8))] H := by have h := hP; rw [upd_nI] at h; exact h
            have hD : va_D A [(rr, eMod ad len kp uo tm em pc0), (ad 20, eArr cI 150 (upN S.1 b zn)), (ad 21, eArr cI 150 (upN S.2 b 8))] := by have h := hD; rw [upd_nI] at h; exact h
            have e10 : comeM S b z v = (upN S.1 b zn, upN S.2 b 8) := by rw [hzn, comeM_set (by omega) (by omega) (by omega)]; first | rw [if_pos (by omega)] | rw [if_neg (by omega)]
            have hP : va_P D vwCl [(rr, eMod ad len kp uo tm em pc0), (ad 20, eArr cI 150 ((comeM S b z v).1)), (ad 21, eArr cI 150 ((comeM S b z v).2))] H := by rw [e10]; exact hP
            have hD : va_D A [(rr, eMod ad len kp uo tm em pc0), (ad 20, eArr cI 150 ((comeM S b z v).1)), (ad 21, eArr cI 150 ((comeM S b z v).2))] := by rw [e10]; exact hD
            exact x_vret hx hb hr hlocks dX7_comes_60 (post := fun (_ : Unit) => True) (w1 := fun (_ : Unit) => [(rr, eMod ad len kp uo tm em pc0), (ad 20, eArr cI 150 ((comeM S b z v).1)), (ad 21, eArr cI 150 ((comeM S b z v).2))]) () trivial hK hP hD hS
          · refine lv_iload_n hx hb dX7_comes_46 rfl (lv_at hl 2 rfl) ?_
            refine lv_goto (tgt := 52) hx hb dX7_comes_47 (by decide) ?_
            refine x_iast (A := A) hx hb hK hP hD hS 2 0 rfl rfl dX7_comes_52 (by omega) (by omega) (fun H locs hP hD hS => ?_)
            have hP : va_P D vwCl [(rr, eMod ad len kp uo tm em pc0), (ad 20, eArr cI 150 S.1), (ad 21, eArr cI 150 (upN S.2 b v))] H := by have h := hP; rw [upd_nI] at h; exact h
            have hD : va_D A [(rr, eMod ad len kp uo tm em pc0), (ad 20, eArr cI 150 S.1), (ad 21, eArr cI 150 (upN S.2 b v))] := by have h := hD; rw [upd_nI] at h; exact h
            refine lv_aload_n hx hb dX7_comes_53 rfl (lv_at hl 0 rfl) ?_
            refine va_get (D := D) (ci := 7) (v := .ref (ad 20)) (C := RX7) (T := TX7) (N := 28) hx hb hts inX7 hown hK hP 0 rfl rfl 25 (by decide) fl67 (fun _ h9 => h9) rfl dX7_comes_54 ?_
            refine lv_iload_n hx hb dX7_comes_57 rfl (lv_at hl 1 rfl) ?_
            refine lv_iload_n hx hb dX7_comes_58 rfl (lv_at hl 3 rfl) ?_
            refine x_iast (A := A) hx hb hK hP hD hS 1 0 rfl rfl dX7_comes_59 (by omega) (by omega) (fun H locs hP hD hS => ?_)
            have hP : va_P D vwCl [(rr, eMod ad len kp uo tm em pc0), (ad 20, eArr cI 150 (upN S.1 b zn)), (ad 21, eArr cI 150 (upN S.2 b v))] H := by have h := hP; rw [upd_nI] at h; exact h
            have hD : va_D A [(rr, eMod ad len kp uo tm em pc0), (ad 20, eArr cI 150 (upN S.1 b zn)), (ad 21, eArr cI 150 (upN S.2 b v))] := by have h := hD; rw [upd_nI] at h; exact h
            have e11 : comeM S b z v = (upN S.1 b zn, upN S.2 b v) := by rw [hzn, comeM_set (by omega) (by omega) (by omega)]; first | rw [if_pos (by omega)] | rw [if_neg (by omega)]
            have hP : va_P D vwCl [(rr, eMod ad len kp uo tm em pc0), (ad 20, eArr cI 150 ((comeM S b z v).1)), (ad 21, eArr cI 150 ((comeM S b z v).2))] H := by rw [e11]; exact hP
            have hD : va_D A [(rr, eMod ad len kp uo tm em pc0), (ad 20, eArr cI 150 ((comeM S b z v).1)), (ad 21, eArr cI 150 ((comeM S b z v).2))] := by rw [e11]; exact hD
            exact x_vret hx hb hr hlocks dX7_comes_60 (post := fun (_ : Unit) => True) (w1 := fun (_ : Unit) => [(rr, eMod ad len kp uo tm em pc0), (ad 20, eArr cI 150 ((comeM S b z v).1)), (ad 21, eArr cI 150 ((comeM S b z v).2))]) () trivial hK hP hD hS
