/-! Constructors: a contract that makes cells, its calls, new arrays. -/
def ctN (D : va_G) (cI cC : ClassId) (wc : va_W) (sz : Nat) (U : State) : Prop := ctP D cI cC wc sz U ∧ va_AO RX0 U
def mtN (l : Launch) (D : va_G) (cI cC : ClassId) (y : MethodName) (ws : List Cond) (rm : Room) (mc ms : Nat) (av : List Value) (wc : va_W) {S : Type} (post : S → Prop) (w1 : S → va_W) : Prop :=
  ∀ sz : Nat, Met l y ws rm (va_Pc av (ctN D cI cC wc sz)) (va_Qv post (ctB D cI cC w1 (va_A wc sz)) (va_A wc sz)) mc ms (va_A wc sz)
theorem ctN_blind {D : va_G} {cI cC : ClassId} {av : List Value} {wc : va_W} {sz : Nat} : FrameBlind (va_Pc av (ctN D cI cC wc sz)) := by
  intro a U g mk q
  obtain ⟨q0, ⟨q1, qP, qK, qD, qN⟩, qO⟩ := q
  exact ⟨q0, ⟨q1, qP, va_K.moved (u := U) (U := U.calling g mk a) (Vm.Alike.refl U.vm) qK, qD, nzP_same (u := U) (U := U.calling g mk a) rfl qN⟩, va_AO.moved (u := U) (U := U.calling g mk a) (Vm.Alike.refl U.vm) qO⟩
theorem max_nI {n : Nat} (h : n < 2147483648) : (if nI n < nI 0 then nI 0 else nI n) = nI n := if_neg (fun hh => absurd ((nI_ltI h (by omega)).mp hh) (Nat.not_lt_zero n))
theorem one_cI {D : va_G} {cI cC cA : ClassId} {s : State} (h : va_K D vwCl (tyG cI cC ++ [(cA, .int)]) s) : cA = cI := by
  have h1 := (h.2 0 (cI, .int) rfl).2
  have h2 := (h.2 2 (cA, .int) rfl).2
  exact Option.some.inj (h2.symm.trans h1)
theorem one_cC {D : va_G} {cI cC cA : ClassId} {s : State} (h : va_K D vwCl (tyG cI cC ++ [(cA, .object RX0)]) s) : cA = cC := by
  obtain ⟨_, _, _, _, _, h1⟩ := (h.2 1 (cC, .object RX0) rfl).2
  obtain ⟨_, _, _, _, _, h2⟩ := (h.2 2 (cA, .object RX0) rfl).2
  exact Option.some.inj (h2.symm.trans h1)
section CN
variable {p : Program} {l : Launch} {e : Env} {R : Room} {s : State} {m : MethodId} {args : Array Value} {below : List Frame} {meth : Method} {c : Code} {H H0 : Heap} {locs : List Loc} {cells slots : Nat} {Q : State → Prop} {cc : ByteArray} {pc : Nat} {ls : Array Slot} {rest : List Value} {D : va_G} {cI cC : ClassId}
theorem mtN_of {y : MethodName} {ws ws' : List Cond} {rm : Room} {mc ms : Nat} {av : List Value} {wc : va_W} {S : Type} {post : S → Prop} {w1 : S → va_W} {maxL : Nat} (hy : plainName y.cls = true) (hw : ws = Cond.code y cc maxL none :: ws') (hlen : Nat.ble (lg_sl av).length maxL = true) (hyi : y.name = "<init>")
    (body : ∀ (p : Program) (e : Env) (s : State) (m : MethodId) (below : List Frame) (meth : Method) (c : Code) (A : Nat → Prop), p.tables.exec = Jvm.exec → c.code = cc → c.maxLocals = maxL → meth.sig.returnType = none → (∀ w ∈ ws, w.before av.toArray s = true) → s.vm.findClass y.cls = some m.cls → meth.locks = false → nzP s → (∀ q : Nat, s.heap.size ≤ q → A q) → va_K D vwCl (tyG cI cC) s → va_P D vwCl wc s.heap → va_D A wc → va_S A s.heap s.heap [] → va_AO RX0 s → meth.name = "<init>" → ∀ ls : Array Slot, lv_has ls maxL (lv_args 0 av) →
      W p l e (headSpec ws rm).room s m av.toArray below meth c s.heap [] 0 0 (MQ below (va_Qv post (ctB D cI cC w1 A) A) av.toArray s mc ms A) (F0 m 0 ls [])) : mtN l D cI cC y ws rm mc ms av wc post w1 := by
  intro sz
  refine Met.ofW (cc := cc) (maxL := maxL) (ret := none) hy hw ?_
  intro p e s m args below meth c s₁ B hml hv
  obtain ⟨rfl, ⟨hsz, hP, hK, hD0, hN⟩, hO⟩ := hv
  subst hsz
  rw [lg_entry_eq]
  exact body p e s m below meth c _ B.exec B.bytes hml B.returns (atoms_spec (ws := ws) B.pre) (findClass_of_methodNamed B.named) B.notSynchronized hN (fun q h => Or.inr h) hK hP hD0.self va_S.rf hO ((name_of_methodNamed B.named B.method).1.trans hyi) _ (lv_entry av (n := maxL) (Nat.le_of_ble_eq_true hlen))
theorem x_nret {S : Type} {post : S → Prop} {w1 : S → va_W} {A : Nat → Prop} {mc ms : Nat} (hx : p.tables.exec = Jvm.exec) (hb : c.code = cc) (hr : meth.sig.returnType = none) (hlocks : meth.locks = false) (hdg : decode cc pc = .ok (.return_, 1)) (u : S) (hp : post u) (hK : va_K D vwCl (tyG cI cC) s) (hP : va_P D vwCl (w1 u) H) (hD : va_D A (w1 u)) (hS : va_S A s.heap H locs) :
    W p l e R s m args below meth c H locs mc ms (MQ below (va_Qv post (ctB D cI cC w1 A) A) args s mc ms A) (F0 m pc ls []) :=
  W.vret hx hb hr (fun t ht hW => ⟨⟨u, rfl, hp, by rw [ht]; exact hP, va_K.moved hW.alike hK, hD⟩, hS.F ht⟩) hS.2.2 hdg hlocks
theorem k_preN {A : Nat → Prop} {ws wc : va_W} {av : List Value} (hO : va_AO RX0 s) (hK : va_K D vwCl (tyG cI cC) s) (hN : nzP s) (hP : va_P D vwCl ws H) (hD : va_D A ws) (isC : List Nat) (hnc : va_nd isC = true) (hC : isC.map (fun i => ws[i]?) = wc.map some) : ∀ U : State, U.heap = H → s.WarmedH U.vm → va_Pc av (ctN D cI cC wc H.size) av.toArray U := by
  intro U hU hW
  obtain ⟨h1, h2⟩ := k_pre (av := av) hK hN hP hD isC hnc hC U hU hW
  exact ⟨h1, h2, va_AO.moved hW.alike hO⟩
theorem k_I {A : Nat → Prop} {S : Type} {post : S → Prop} {w1 : S → va_W} {ws wc wr : va_W} {y : MethodName} {wsy Ts : List Cond} {rm : Room} {mc ms b n nL maxL index : Nat} {As : List Value} {own : String} {bytes : ByteArray} {st : List Value}
    (SF : CallFix p m c cc nL s args Ts own) (hM : mtN l D cI cC y wsy rm mc ms (.ref b :: As) wc post w1) (cw : CallB R s args own index y bytes maxL none wsy rm mc ms n ∧ y.name = "<init>" ∧ (Cond.instanceMethod y).before args s = true) (hn : As.length = n) (hl : ls.size = nL) (hst : st = As.reverse ++ .ref b :: rest) (hroom : (rest.map fun v => v.category).sum ≤ 8) (hdg : decode cc pc = .ok (.invokespecial index, 3)) (hf : cells + mc ≤ R.cells ∧ slots + ms ≤ R.slots)
    (hO : va_AO RX0 s) (hN : nzP s) (hK : va_K D vwCl (tyG cI cC) s) (hP : va_P D vwCl ws H) (hD : va_D A ws) (hS : va_S A H0 H locs) (hA : ∀ q : Nat, H0.size ≤ q → A q)
    (isC isR : List Nat) (hC : isC.map (fun i => ws[i]?) = wc.map some) (hR : isR.map (fun i => ws[i]?) = wr.map some) (hnd : va_nd isC = true ∧ va_nd isR = true ∧ ∀ i ∈ isR, i ∉ isC)
    (kk : ∀ (u : S) (H1 : Heap) (locs1 : List Loc), post u → va_P D vwCl (wr ++ w1 u) H1 → va_D A (wr ++ w1 u) → va_S A H0 H1 locs1 → W p l e R s m args below meth c H1 locs1 (cells + mc) (slots + ms) Q (F0 m (pc + 3) ls rest)) :
    W p l e R s m args below meth c H locs cells slots Q (F0 m pc ls st) := by
  subst hst
  have hF := va_free (wc := wc) hD hS hA isC hC
  refine va_callv (va_runI (rest := rest) SF (hM H.size) cw ⟨ctN_blind, k_preN (av := .ref b :: As) hO hK hN hP hD isC hnd.1 hC⟩ rfl hn hl rfl (lv_room hroom) hdg hf) hS (fun q _ h => hF q h) hF (fun u t H1 locs1 ht hvm hw hB hz1 hk1 hS1 => ?_)
  obtain ⟨hP1, hD1⟩ := k_join hP hD hS hA isC isR hC hR hnd.2.1 hnd.2.2 ht hB hk1
  exact kk u H1 locs1 hw hP1 hD1 hS1
theorem k_IN {A : Nat → Prop} {S : Type} {post : S → Prop} {w1 : S → va_W} {ws wc wr : va_W} {y : MethodName} {wsy Ts : List Cond} {rm : Room} {mc ms b n nL maxL index : Nat} {As : List Value} {own host : String} {bytes : ByteArray} {st : List Value}
    (SF : CallFix p m c cc nL s args Ts own) (hM : mtN l D cI cC y wsy rm mc ms (.ref b :: As) wc post w1) (cw : va_CN R s args own index y host bytes maxL none wsy rm mc ms n ∧ y.name = "<init>" ∧ (Cond.instanceMethod y).before args s = true) (hn : As.length = n) (hl : ls.size = nL) (hst : st = As.reverse ++ .ref b :: rest) (hroom : (rest.map fun v => v.category).sum ≤ 8) (hdg : decode cc pc = .ok (.invokespecial index, 3)) (hf : cells + mc ≤ R.cells ∧ slots + ms ≤ R.slots)
    (hO : va_AO RX0 s) (hN : nzP s) (hK : va_K D vwCl (tyG cI cC) s) (hP : va_P D vwCl ws H) (hD : va_D A ws) (hS : va_S A H0 H locs) (hA : ∀ q : Nat, H0.size ≤ q → A q)
    (isC isR : List Nat) (hC : isC.map (fun i => ws[i]?) = wc.map some) (hR : isR.map (fun i => ws[i]?) = wr.map some) (hnd : va_nd isC = true ∧ va_nd isR = true ∧ ∀ i ∈ isR, i ∉ isC)
    (kk : ∀ (u : S) (H1 : Heap) (locs1 : List Loc), post u → va_P D vwCl (wr ++ w1 u) H1 → va_D A (wr ++ w1 u) → va_S A H0 H1 locs1 → W p l e R s m args below meth c H1 locs1 (cells + mc) (slots + ms) Q (F0 m (pc + 3) ls rest)) :
    W p l e R s m args below meth c H locs cells slots Q (F0 m pc ls st) := by
  subst hst
  have hF := va_free (wc := wc) hD hS hA isC hC
  refine va_callv (va_runIN (rest := rest) SF (hM H.size) cw ⟨ctN_blind, k_preN (av := .ref b :: As) hO hK hN hP hD isC hnd.1 hC⟩ rfl hn hl rfl (lv_room hroom) hdg hf) hS (fun q _ h => hF q h) hF (fun u t H1 locs1 ht hvm hw hB hz1 hk1 hS1 => ?_)
  obtain ⟨hP1, hD1⟩ := k_join hP hD hS hA isC isR hC hR hnd.2.1 hnd.2.2 ht hB hk1
  exact kk u H1 locs1 hw hP1 hD1 hS1
theorem x_newa {A : Nat → Prop} {ws : va_W} {n : Nat} (hx : p.tables.exec = Jvm.exec) (hb : c.code = cc) (harr : (Cond.arrayClass .int).before args s = true) (hK : va_K D vwCl (tyG cI cC) s) (hP : va_P D vwCl ws H) (hD : va_D A ws) (hS : va_S A H0 H locs) (hA : ∀ q : Nat, H0.size ≤ q → A q) (hn : n < 2147483648) (hby : n * 4 ≤ 536870912) (hcells : cells + 1 ≤ R.cells) (hslots : slots + n ≤ R.slots) (hdg : decode cc pc = .ok (.newarray .int, 2))
    (kk : ∀ (q : Nat) (H1 : Heap), va_P D vwCl (ws ++ [(q, eArr cI n (fun _ => 0))]) H1 → va_D A (ws ++ [(q, eArr cI n (fun _ => 0))]) → va_S A H0 H1 locs → W p l e R s m args below meth c H1 locs (cells + 1) (slots + n) Q (F0 m (pc + 2) ls (.ref q :: rest))) :
    W p l e R s m args below meth c H locs cells slots Q (F0 m pc ls (.int (nI n) :: rest)) := by
  refine va_newa (atype := .int) (ty := .int) (N' := n) (a0 := (n, .inl (fun _ => nI 0))) hx hb harr rfl hK hP hD hS hA (fun cA => by rw [vp_cell_i, nI_0]; rfl) (fun h => by rw [← nI_0] at h; exact absurd ((nI_ltI hn (by omega)).mp h) (Nat.not_lt_zero n)) (nI_cl hn) hby hcells hslots hdg (fun q cA H1 hK1 hP1 hD1 hS1 => ?_)
  have e := one_cI hK1
  subst e
  exact kk q H1 hP1 hD1 hS1
theorem x_newq {A : Nat → Prop} {ws : va_W} {n index : Nat} {own : String} (hx : p.tables.exec = Jvm.exec) (hb : c.code = cc) (hown : s.vm.findClass own = some m.cls) (hcl : (Cond.classLink own index RX0).before args s = true) (hO : va_AO RX0 s) (hK : va_K D vwCl (tyG cI cC) s) (hP : va_P D vwCl ws H) (hD : va_D A ws) (hS : va_S A H0 H locs) (hA : ∀ q : Nat, H0.size ≤ q → A q) (hn : n < 2147483648) (hby : n * 4 ≤ 536870912) (hcells : cells + 1 ≤ R.cells) (hslots : slots + n ≤ R.slots) (hdg : decode cc pc = .ok (.anewarray index, 3))
    (kk : ∀ (q : Nat) (H1 : Heap), va_P D vwCl (ws ++ [(q, eArC cC n (fun _ => none))]) H1 → va_D A (ws ++ [(q, eArC cC n (fun _ => none))]) → va_S A H0 H1 locs → W p l e R s m args below meth c H1 locs (cells + 1) (slots + n) Q (F0 m (pc + 3) ls (.ref q :: rest))) :
    W p l e R s m args below meth c H locs cells slots Q (F0 m pc ls (.int (nI n) :: rest)) := by
  refine va_newq (C := RX0) (N' := n) hx hb hown hcl hO hK hP hD hS hA (fun h => by rw [← nI_0] at h; exact absurd ((nI_ltI hn (by omega)).mp h) (Nat.not_lt_zero n)) (nI_cl hn) hby hcells hslots hdg (fun q cA H1 hK1 hP1 hD1 hS1 => ?_)
  have e := one_cC hK1
  subst e
  exact kk q H1 hP1 hD1 hS1
end CN
