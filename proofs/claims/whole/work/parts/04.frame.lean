/-! The frame of this claim: what a contract is here, how a method's walk begins and ends, a call as one row; numbers as Nat. -/
-- the words of the nest (private members across classes of one file): they are no steady words, so a contract carries them in its start
def nzW : List Cond := [
  .methodLinkNest "EchoPaysRent" 11 ⟨"EchoPaysRent$Text", "<init>", "()V"⟩ "EchoPaysRent",
  .fieldLinkNest "EchoPaysRent" 151 "EchoPaysRent$Canyon" "speaker" "I" "EchoPaysRent",
  .fieldLinkNest "EchoPaysRent" 110 "EchoPaysRent$Canyon" "hearer" "I" "EchoPaysRent",
  .fieldLinkNest "EchoPaysRent$Ways" 39 "EchoPaysRent$Canyon" "air" "I" "EchoPaysRent",
  .fieldLinkNest "EchoPaysRent" 197 "EchoPaysRent$Canyon" "air" "I" "EchoPaysRent",
  .fieldLinkNest "EchoPaysRent" 160 "EchoPaysRent$Canyon" "snowSet" "I" "EchoPaysRent",
  .methodLinkNest "EchoPaysRent" 28 ⟨"EchoPaysRent$Ways", "<init>", "()V"⟩ "EchoPaysRent",
  .methodLinkNest "EchoPaysRent" 38 ⟨"EchoPaysRent$Sound", "<init>", "()V"⟩ "EchoPaysRent",
  .methodLinkNest "EchoPaysRent$Canyon" 46 ⟨"EchoPaysRent", "isCliff", "(III)Z"⟩ "EchoPaysRent",
  .methodLinkNest "EchoPaysRent$Canyon" 53 ⟨"EchoPaysRent", "isWord", "(III)Z"⟩ "EchoPaysRent",
  .methodLinkNest "EchoPaysRent$Text" 60 ⟨"EchoPaysRent", "within", "(III)Z"⟩ "EchoPaysRent",
  .methodLinkNest "EchoPaysRent$Canyon" 56 ⟨"EchoPaysRent", "isYard", "(I)Z"⟩ "EchoPaysRent",
  .methodLinkNest "EchoPaysRent$Canyon" 60 ⟨"EchoPaysRent", "within", "(III)Z"⟩ "EchoPaysRent"]
def nzP (U : State) : Prop := ∀ w ∈ nzW, va_Nw w U
theorem nzP_warm {s U : State} (hW : s.WarmedH U.vm) (h : nzP s) : nzP U := by
  intro w hw
  have h1 := h w hw
  simp only [nzW, List.mem_cons, List.not_mem_nil, or_false] at hw
  rcases hw with rfl | rfl | rfl | rfl | rfl | rfl | rfl | rfl | rfl | rfl | rfl | rfl | rfl <;> first | exact va_Nw.warmF hW h1 | exact va_Nw.warmM hW h1
theorem nzP_same {u U : State} (h : u.vm = U.vm) (hZ : nzP u) : nzP U := by
  intro w hw
  have h1 := hZ w hw
  simp only [nzW, List.mem_cons, List.not_mem_nil, or_false] at hw
  rcases hw with rfl | rfl | rfl | rfl | rfl | rfl | rfl | rfl | rfl | rfl | rfl | rfl | rfl <;> exact va_Nw.same rfl h h1
theorem nz_use {U : State} {A : Array Value} (h : nzP U) {w : Cond} (hw : w ∈ nzW) : w.before A U = true := by
  have h1 := h w hw
  simp only [nzW, List.mem_cons, List.not_mem_nil, or_false] at hw
  rcases hw with rfl | rfl | rfl | rfl | rfl | rfl | rfl | rfl | rfl | rfl | rfl | rfl | rfl <;> exact va_Nw.use rfl h1
-- the array classes
abbrev tyG (cI cC : ClassId) : List (ClassId × FieldType) := [(cI, .int), (cC, .object RX0)]
/-- a contract's start: the cells wc, apart, the tables, the nest's words -/
def ctP (D : va_G) (cI cC : ClassId) (wc : va_W) (sz : Nat) (U : State) : Prop := U.heap.size = sz ∧ va_P D vwCl wc U.heap ∧ va_K D vwCl (tyG cI cC) U ∧ va_D (fun _ => True) wc ∧ nzP U
/-- a contract's end: the cells w1 u -/
def ctB (D : va_G) (cI cC : ClassId) {S : Type} (w1 : S → va_W) (A : Nat → Prop) (u : S) (t : State) : Prop := va_P D vwCl (w1 u) t.heap ∧ va_K D vwCl (tyG cI cC) t ∧ va_D A (w1 u)
def mtI (l : Launch) (D : va_G) (cI cC : ClassId) (y : MethodName) (ws : List Cond) (rm : Room) (av : List Value) (wc : va_W) {S : Type} (post : Int32 → S → Prop) (w1 : S → va_W) : Prop :=
  ∀ sz : Nat, Met l y ws rm (va_Pc av (ctP D cI cC wc sz)) (va_Qi post (ctB D cI cC w1 (va_A wc sz)) (va_A wc sz)) 0 0 (va_A wc sz)
def mtV (l : Launch) (D : va_G) (cI cC : ClassId) (y : MethodName) (ws : List Cond) (rm : Room) (av : List Value) (wc : va_W) {S : Type} (post : S → Prop) (w1 : S → va_W) : Prop :=
  ∀ sz : Nat, Met l y ws rm (va_Pc av (ctP D cI cC wc sz)) (va_Qv post (ctB D cI cC w1 (va_A wc sz)) (va_A wc sz)) 0 0 (va_A wc sz)
theorem ctP_blind {D : va_G} {cI cC : ClassId} {av : List Value} {wc : va_W} {sz : Nat} : FrameBlind (va_Pc av (ctP D cI cC wc sz)) := by
  intro a U g mk q
  obtain ⟨q0, q1, qP, qK, qD, qN⟩ := q
  exact ⟨q0, q1, qP, va_K.moved (u := U) (U := U.calling g mk a) (Vm.Alike.refl U.vm) qK, qD, nzP_same (u := U) (U := U.calling g mk a) rfl qN⟩
section FR
variable {p : Program} {l : Launch} {e : Env} {R : Room} {s : State} {m : MethodId} {args : Array Value} {below : List Frame} {meth : Method} {c : Code} {H H0 : Heap} {locs : List Loc} {cells slots : Nat} {Q : State → Prop} {cc : ByteArray} {pc : Nat} {ls : Array Slot} {rest : List Value} {D : va_G} {cI cC : ClassId}
theorem mtI_of {y : MethodName} {ws ws' : List Cond} {rm : Room} {av : List Value} {wc : va_W} {S : Type} {post : Int32 → S → Prop} {w1 : S → va_W} {maxL : Nat} {ret : Option FieldType} (hy : plainName y.cls = true) (hw : ws = Cond.code y cc maxL ret :: ws') (hlen : Nat.ble (lg_sl av).length maxL = true)
    (body : ∀ (p : Program) (e : Env) (s : State) (m : MethodId) (below : List Frame) (meth : Method) (c : Code) (A : Nat → Prop), p.tables.exec = Jvm.exec → c.code = cc → c.maxLocals = maxL → meth.sig.returnType = ret → (∀ w ∈ ws, w.before av.toArray s = true) → s.vm.findClass y.cls = some m.cls → meth.locks = false → nzP s → (∀ q : Nat, s.heap.size ≤ q → A q) → va_K D vwCl (tyG cI cC) s → va_P D vwCl wc s.heap → va_D A wc → va_S A s.heap s.heap [] → ∀ ls : Array Slot, lv_has ls maxL (lv_args 0 av) →
      W p l e (headSpec ws rm).room s m av.toArray below meth c s.heap [] 0 0 (MQ below (va_Qi post (ctB D cI cC w1 A) A) av.toArray s 0 0 A) (F0 m 0 ls [])) : mtI l D cI cC y ws rm av wc post w1 := by
  intro sz
  refine Met.ofW (cc := cc) (maxL := maxL) (ret := ret) hy hw ?_
  intro p e s m args below meth c s₁ B hml hv
  obtain ⟨rfl, hsz, hP, hK, hD0, hN⟩ := hv
  subst hsz
  rw [lg_entry_eq]
  exact body p e s m below meth c _ B.exec B.bytes hml B.returns (atoms_spec (ws := ws) B.pre) (findClass_of_methodNamed B.named) B.notSynchronized hN (fun q h => Or.inr h) hK hP hD0.self va_S.rf _ (lv_entry av (n := maxL) (Nat.le_of_ble_eq_true hlen))
theorem mtV_of {y : MethodName} {ws ws' : List Cond} {rm : Room} {av : List Value} {wc : va_W} {S : Type} {post : S → Prop} {w1 : S → va_W} {maxL : Nat} {ret : Option FieldType} (hy : plainName y.cls = true) (hw : ws = Cond.code y cc maxL ret :: ws') (hlen : Nat.ble (lg_sl av).length maxL = true)
    (body : ∀ (p : Program) (e : Env) (s : State) (m : MethodId) (below : List Frame) (meth : Method) (c : Code) (A : Nat → Prop), p.tables.exec = Jvm.exec → c.code = cc → c.maxLocals = maxL → meth.sig.returnType = ret → (∀ w ∈ ws, w.before av.toArray s = true) → s.vm.findClass y.cls = some m.cls → meth.locks = false → nzP s → (∀ q : Nat, s.heap.size ≤ q → A q) → va_K D vwCl (tyG cI cC) s → va_P D vwCl wc s.heap → va_D A wc → va_S A s.heap s.heap [] → ∀ ls : Array Slot, lv_has ls maxL (lv_args 0 av) →
      W p l e (headSpec ws rm).room s m av.toArray below meth c s.heap [] 0 0 (MQ below (va_Qv post (ctB D cI cC w1 A) A) av.toArray s 0 0 A) (F0 m 0 ls [])) : mtV l D cI cC y ws rm av wc post w1 := by
  intro sz
  refine Met.ofW (cc := cc) (maxL := maxL) (ret := ret) hy hw ?_
  intro p e s m args below meth c s₁ B hml hv
  obtain ⟨rfl, hsz, hP, hK, hD0, hN⟩ := hv
  subst hsz
  rw [lg_entry_eq]
  exact body p e s m below meth c _ B.exec B.bytes hml B.returns (atoms_spec (ws := ws) B.pre) (findClass_of_methodNamed B.named) B.notSynchronized hN (fun q h => Or.inr h) hK hP hD0.self va_S.rf _ (lv_entry av (n := maxL) (Nat.le_of_ble_eq_true hlen))
/-- the end of a method with an int (or boolean) answer -/
theorem x_iret {S : Type} {post : Int32 → S → Prop} {w1 : S → va_W} {A : Nat → Prop} {v : Int32} {ty : FieldType} (hx : p.tables.exec = Jvm.exec) (hb : c.code = cc) (hr : meth.sig.returnType = some ty) (hlocks : meth.locks = false) (hdg : decode cc pc = .ok (.ireturn, 1)) (hn : narrow ty (.int v) = .int v) (u : S) (hp : post v u) (hK : va_K D vwCl (tyG cI cC) s) (hP : va_P D vwCl (w1 u) H) (hD : va_D A (w1 u)) (hS : va_S A s.heap H locs) :
    W p l e R s m args below meth c H locs 0 0 (MQ below (va_Qi post (ctB D cI cC w1 A) A) args s 0 0 A) (F0 m pc ls [.int v]) :=
  W.zret hx hb hr hn (fun t ht hW => ⟨⟨v, u, rfl, hp, by rw [ht]; exact hP, va_K.moved hW.alike hK, hD⟩, hS.F ht⟩) hS.2.2 hdg hlocks
theorem x_vret {S : Type} {post : S → Prop} {w1 : S → va_W} {A : Nat → Prop} (hx : p.tables.exec = Jvm.exec) (hb : c.code = cc) (hr : meth.sig.returnType = none) (hlocks : meth.locks = false) (hdg : decode cc pc = .ok (.return_, 1)) (u : S) (hp : post u) (hK : va_K D vwCl (tyG cI cC) s) (hP : va_P D vwCl (w1 u) H) (hD : va_D A (w1 u)) (hS : va_S A s.heap H locs) :
    W p l e R s m args below meth c H locs 0 0 (MQ below (va_Qv post (ctB D cI cC w1 A) A) args s 0 0 A) (F0 m pc ls []) :=
  W.vret hx hb hr (fun t ht hW => ⟨⟨u, rfl, hp, by rw [ht]; exact hP, va_K.moved hW.alike hK, hD⟩, hS.F ht⟩) hS.2.2 hdg hlocks
/-- what a call leaves: the callee's cells anew behind the rest -/
theorem k_join {A : Nat → Prop} {S : Type} {ws wc wr : va_W} {w1 : S → va_W} {u : S} {H1 : Heap} {t : State} (hP : va_P D vwCl ws H) (hD : va_D A ws) (hS : va_S A H0 H locs) (hA : ∀ q : Nat, H0.size ≤ q → A q) (isC isR : List Nat) (hC : isC.map (fun i => ws[i]?) = wc.map some) (hR : isR.map (fun i => ws[i]?) = wr.map some) (hn : va_nd isR = true) (hdis : ∀ i ∈ isR, i ∉ isC)
    (ht : t.heap = H1) (hB : ctB D cI cC w1 (va_A wc H.size) u t) (hk : ∀ q : Nat, q < H.size → ¬ va_A wc H.size q → H1[q]? = H[q]?) : va_P D vwCl (wr ++ w1 u) H1 ∧ va_D A (wr ++ w1 u) := by
  obtain ⟨hP1, -, hD1⟩ := hB
  rw [ht] at hP1
  exact va_join hP hD isC isR hC hR hn hdis hk (va_free hD hS hA isC hC) hP1 hD1
theorem k_pre {A : Nat → Prop} {ws wc : va_W} {av : List Value} (hK : va_K D vwCl (tyG cI cC) s) (hN : nzP s) (hP : va_P D vwCl ws H) (hD : va_D A ws) (isC : List Nat) (hnc : va_nd isC = true) (hC : isC.map (fun i => ws[i]?) = wc.map some) : ∀ U : State, U.heap = H → s.WarmedH U.vm → va_Pc av (ctP D cI cC wc H.size) av.toArray U := by
  intro U hU hW
  have hD1 := hD.sub (ws' := wc) isC hnc hC
  have hP1 : va_P D vwCl wc H := by
    have h := hP.sub (ws' := isC.filterMap (fun i => ws[i]?)) isC rfl
    have e : isC.filterMap (fun i => ws[i]?) = wc := by
      have h2 : (isC.map (fun i => ws[i]?)).filterMap id = (wc.map some).filterMap id := by rw [hC]
      simpa [List.filterMap_map, Function.comp_def] using h2
    rw [e] at h
    exact h
  exact ⟨rfl, by rw [hU], by rw [hU]; exact hP1, va_K.moved hW.alike hK, hD1.weaken (fun _ _ _ _ => trivial), nzP_warm hW hN⟩
/-- a call of an instance method with an int answer -/
theorem k_V {A : Nat → Prop} {S : Type} {post : Int32 → S → Prop} {w1 : S → va_W} {ws wc wr : va_W} {y : MethodName} {wsy Ts : List Cond} {rm : Room} {b q0 ci n nL maxL index : Nat} {As : List Value} {own : String} {bytes : ByteArray} {ret : Option FieldType} {q : vw_C} {fs : List Value} {st : List Value}
    (SF : CallFix p m c cc nL s args Ts own) (hM : mtI l D cI cC y wsy rm (.ref b :: As) wc post w1) (cw : CallW R s args own q.1 index y bytes maxL ret wsy rm 0 0 n) (hn : As.length = n) (hl : ls.size = nL) (hst : st = As.reverse ++ .ref b :: rest) (hroom : (rest.map fun v => v.category).sum ≤ 8) (hdg : decode cc pc = .ok (.invokevirtual index, 3)) (hf : cells ≤ R.cells ∧ slots ≤ R.slots)
    (hN : nzP s) (hK : va_K D vwCl (tyG cI cC) s) (hP : va_P D vwCl ws H) (hD : va_D A ws) (hS : va_S A H0 H locs) (hA : ∀ q : Nat, H0.size ≤ q → A q) (hci : vwCl[ci]? = some q) (hrc : ws[q0]? = some (b, .inr (ci, fs)))
    (isC isR : List Nat) (hC : isC.map (fun i => ws[i]?) = wc.map some) (hR : isR.map (fun i => ws[i]?) = wr.map some) (hnd : va_nd isC = true ∧ va_nd isR = true ∧ ∀ i ∈ isR, i ∉ isC)
    (kk : ∀ (r : Int32) (u : S) (H1 : Heap) (locs1 : List Loc), post r u → va_P D vwCl (wr ++ w1 u) H1 → va_D A (wr ++ w1 u) → va_S A H0 H1 locs1 → W p l e R s m args below meth c H1 locs1 cells slots Q (F0 m (pc + 3) ls (.int r :: rest))) :
    W p l e R s m args below meth c H locs cells slots Q (F0 m pc ls st) := by
  subst hst
  have hF := va_free (wc := wc) hD hS hA isC hC
  refine va_calli (va_runV (rest := rest) SF (hM H.size) cw ⟨ctP_blind, va_recv hK hP hci hrc, k_pre (av := .ref b :: As) hK hN hP hD isC hnd.1 hC⟩ rfl hn hl rfl (lv_room hroom) hdg hf) hS (fun q _ h => hF q h) hF (fun r u t H1 locs1 ht hvm hw hB hz1 hk1 hS1 => ?_)
  obtain ⟨hP1, hD1⟩ := k_join hP hD hS hA isC isR hC hR hnd.2.1 hnd.2.2 ht hB hk1
  exact kk r u H1 locs1 hw hP1 hD1 hS1
theorem k_Vv {A : Nat → Prop} {S : Type} {post : S → Prop} {w1 : S → va_W} {ws wc wr : va_W} {y : MethodName} {wsy Ts : List Cond} {rm : Room} {b q0 ci n nL maxL index : Nat} {As : List Value} {own : String} {bytes : ByteArray} {ret : Option FieldType} {q : vw_C} {fs : List Value} {st : List Value}
    (SF : CallFix p m c cc nL s args Ts own) (hM : mtV l D cI cC y wsy rm (.ref b :: As) wc post w1) (cw : CallW R s args own q.1 index y bytes maxL ret wsy rm 0 0 n) (hn : As.length = n) (hl : ls.size = nL) (hst : st = As.reverse ++ .ref b :: rest) (hroom : (rest.map fun v => v.category).sum ≤ 8) (hdg : decode cc pc = .ok (.invokevirtual index, 3)) (hf : cells ≤ R.cells ∧ slots ≤ R.slots)
    (hN : nzP s) (hK : va_K D vwCl (tyG cI cC) s) (hP : va_P D vwCl ws H) (hD : va_D A ws) (hS : va_S A H0 H locs) (hA : ∀ q : Nat, H0.size ≤ q → A q) (hci : vwCl[ci]? = some q) (hrc : ws[q0]? = some (b, .inr (ci, fs)))
    (isC isR : List Nat) (hC : isC.map (fun i => ws[i]?) = wc.map some) (hR : isR.map (fun i => ws[i]?) = wr.map some) (hnd : va_nd isC = true ∧ va_nd isR = true ∧ ∀ i ∈ isR, i ∉ isC)
    (kk : ∀ (u : S) (H1 : Heap) (locs1 : List Loc), post u → va_P D vwCl (wr ++ w1 u) H1 → va_D A (wr ++ w1 u) → va_S A H0 H1 locs1 → W p l e R s m args below meth c H1 locs1 cells slots Q (F0 m (pc + 3) ls rest)) :
    W p l e R s m args below meth c H locs cells slots Q (F0 m pc ls st) := by
  subst hst
  have hF := va_free (wc := wc) hD hS hA isC hC
  refine va_callv (va_runV (rest := rest) SF (hM H.size) cw ⟨ctP_blind, va_recv hK hP hci hrc, k_pre (av := .ref b :: As) hK hN hP hD isC hnd.1 hC⟩ rfl hn hl rfl (lv_room hroom) hdg hf) hS (fun q _ h => hF q h) hF (fun u t H1 locs1 ht hvm hw hB hz1 hk1 hS1 => ?_)
  obtain ⟨hP1, hD1⟩ := k_join hP hD hS hA isC isR hC hR hnd.2.1 hnd.2.2 ht hB hk1
  exact kk u H1 locs1 hw hP1 hD1 hS1
/-- a call of a static method (of the same class) with an int answer; it has no cells -/
theorem k_S {A : Nat → Prop} {S : Type} {post : Int32 → S → Prop} {w1 : S → va_W} {ws wc wr : va_W} {y : MethodName} {wsy Ts : List Cond} {rm : Room} {n nL maxL index : Nat} {As : List Value} {own : String} {bytes : ByteArray} {ret : Option FieldType} {st : List Value}
    (SF : CallFix p m c cc nL s args Ts own) (hM : mtI l D cI cC y wsy rm As wc post w1) (cw : CallB R s args own index y bytes maxL ret wsy rm 0 0 n ∧ (Cond.static y).before args s = true) (hn : As.length = n) (hl : ls.size = nL) (hst : st = As.reverse ++ rest) (hroom : (rest.map fun v => v.category).sum ≤ 8) (hdg : decode cc pc = .ok (.invokestatic index, 3)) (hf : cells ≤ R.cells ∧ slots ≤ R.slots)
    (hN : nzP s) (hK : va_K D vwCl (tyG cI cC) s) (hP : va_P D vwCl ws H) (hD : va_D A ws) (hS : va_S A H0 H locs) (hA : ∀ q : Nat, H0.size ≤ q → A q)
    (isC isR : List Nat) (hC : isC.map (fun i => ws[i]?) = wc.map some) (hR : isR.map (fun i => ws[i]?) = wr.map some) (hnd : va_nd isC = true ∧ va_nd isR = true ∧ ∀ i ∈ isR, i ∉ isC)
    (kk : ∀ (r : Int32) (u : S) (H1 : Heap) (locs1 : List Loc), post r u → va_P D vwCl (wr ++ w1 u) H1 → va_D A (wr ++ w1 u) → va_S A H0 H1 locs1 → W p l e R s m args below meth c H1 locs1 cells slots Q (F0 m (pc + 3) ls (.int r :: rest))) :
    W p l e R s m args below meth c H locs cells slots Q (F0 m pc ls st) := by
  subst hst
  have hF := va_free (wc := wc) hD hS hA isC hC
  refine va_calli (va_runS (rest := rest) SF (hM H.size) cw ⟨ctP_blind, k_pre (av := As) hK hN hP hD isC hnd.1 hC⟩ rfl hn hl rfl (lv_room hroom) hdg hf) hS (fun q _ h => hF q h) hF (fun r u t H1 locs1 ht hvm hw hB hz1 hk1 hS1 => ?_)
  obtain ⟨hP1, hD1⟩ := k_join hP hD hS hA isC isR hC hR hnd.2.1 hnd.2.2 ht hB hk1
  exact kk r u H1 locs1 hw hP1 hD1 hS1
/-- a call of a private static method of the nest -/
theorem k_SN {A : Nat → Prop} {S : Type} {post : Int32 → S → Prop} {w1 : S → va_W} {ws wc wr : va_W} {y : MethodName} {wsy Ts : List Cond} {rm : Room} {n nL maxL index : Nat} {As : List Value} {own host : String} {bytes : ByteArray} {ret : Option FieldType} {st : List Value}
    (SF : CallFix p m c cc nL s args Ts own) (hM : mtI l D cI cC y wsy rm As wc post w1) (cw : va_CN R s args own index y host bytes maxL ret wsy rm 0 0 n ∧ (Cond.static y).before args s = true ∧ True) (hn : As.length = n) (hl : ls.size = nL) (hst : st = As.reverse ++ rest) (hroom : (rest.map fun v => v.category).sum ≤ 8) (hdg : decode cc pc = .ok (.invokestatic index, 3)) (hf : cells ≤ R.cells ∧ slots ≤ R.slots)
    (hN : nzP s) (hK : va_K D vwCl (tyG cI cC) s) (hP : va_P D vwCl ws H) (hD : va_D A ws) (hS : va_S A H0 H locs) (hA : ∀ q : Nat, H0.size ≤ q → A q)
    (isC isR : List Nat) (hC : isC.map (fun i => ws[i]?) = wc.map some) (hR : isR.map (fun i => ws[i]?) = wr.map some) (hnd : va_nd isC = true ∧ va_nd isR = true ∧ ∀ i ∈ isR, i ∉ isC)
    (kk : ∀ (r : Int32) (u : S) (H1 : Heap) (locs1 : List Loc), post r u → va_P D vwCl (wr ++ w1 u) H1 → va_D A (wr ++ w1 u) → va_S A H0 H1 locs1 → W p l e R s m args below meth c H1 locs1 cells slots Q (F0 m (pc + 3) ls (.int r :: rest))) :
    W p l e R s m args below meth c H locs cells slots Q (F0 m pc ls st) := by
  subst hst
  have hF := va_free (wc := wc) hD hS hA isC hC
  refine va_calli (va_runSN (rest := rest) SF (hM H.size) cw ⟨ctP_blind, k_pre (av := As) hK hN hP hD isC hnd.1 hC⟩ rfl hn hl rfl (lv_room hroom) hdg hf) hS (fun q _ h => hF q h) hF (fun r u t H1 locs1 ht hvm hw hB hz1 hk1 hS1 => ?_)
  obtain ⟨hP1, hD1⟩ := k_join hP hD hS hA isC isR hC hR hnd.2.1 hnd.2.2 ht hB hk1
  exact kk r u H1 locs1 hw hP1 hD1 hS1
theorem k_Sv {A : Nat → Prop} {S : Type} {post : S → Prop} {w1 : S → va_W} {ws wc wr : va_W} {y : MethodName} {wsy Ts : List Cond} {rm : Room} {n nL maxL index : Nat} {As : List Value} {own : String} {bytes : ByteArray} {ret : Option FieldType} {st : List Value}
    (SF : CallFix p m c cc nL s args Ts own) (hM : mtV l D cI cC y wsy rm As wc post w1) (cw : CallB R s args own index y bytes maxL ret wsy rm 0 0 n ∧ (Cond.static y).before args s = true) (hn : As.length = n) (hl : ls.size = nL) (hst : st = As.reverse ++ rest) (hroom : (rest.map fun v => v.category).sum ≤ 8) (hdg : decode cc pc = .ok (.invokestatic index, 3)) (hf : cells ≤ R.cells ∧ slots ≤ R.slots)
    (hN : nzP s) (hK : va_K D vwCl (tyG cI cC) s) (hP : va_P D vwCl ws H) (hD : va_D A ws) (hS : va_S A H0 H locs) (hA : ∀ q : Nat, H0.size ≤ q → A q)
    (isC isR : List Nat) (hC : isC.map (fun i => ws[i]?) = wc.map some) (hR : isR.map (fun i => ws[i]?) = wr.map some) (hnd : va_nd isC = true ∧ va_nd isR = true ∧ ∀ i ∈ isR, i ∉ isC)
    (kk : ∀ (u : S) (H1 : Heap) (locs1 : List Loc), post u → va_P D vwCl (wr ++ w1 u) H1 → va_D A (wr ++ w1 u) → va_S A H0 H1 locs1 → W p l e R s m args below meth c H1 locs1 cells slots Q (F0 m (pc + 3) ls rest)) :
    W p l e R s m args below meth c H locs cells slots Q (F0 m pc ls st) := by
  subst hst
  have hF := va_free (wc := wc) hD hS hA isC hC
  refine va_callv (va_runS (rest := rest) SF (hM H.size) cw ⟨ctP_blind, k_pre (av := As) hK hN hP hD isC hnd.1 hC⟩ rfl hn hl rfl (lv_room hroom) hdg hf) hS (fun q _ h => hF q h) hF (fun u t H1 locs1 ht hvm hw hB hz1 hk1 hS1 => ?_)
  obtain ⟨hP1, hD1⟩ := k_join hP hD hS hA isC isR hC hR hnd.2.1 hnd.2.2 ht hB hk1
  exact kk u H1 locs1 hw hP1 hD1 hS1
end FR
