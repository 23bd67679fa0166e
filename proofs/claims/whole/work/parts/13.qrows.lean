/-! Rows for references: a method that answers a reference or null, arrays of references. -/
def mtQ (l : Launch) (D : va_G) (cI cC : ClassId) (y : MethodName) (ws : List Cond) (rm : Room) (av : List Value) (wc : va_W) {S : Type} (post : Option Nat → S → Prop) (w1 : S → va_W) : Prop :=
  ∀ sz : Nat, Met l y ws rm (va_Pc av (ctP D cI cC wc sz)) (va_Qq post (ctB D cI cC w1 (va_A wc sz)) (va_A wc sz)) 0 0 (va_A wc sz)
section QR
variable {p : Program} {l : Launch} {e : Env} {R : Room} {s : State} {m : MethodId} {args : Array Value} {below : List Frame} {meth : Method} {c : Code} {H H0 : Heap} {locs : List Loc} {cells slots : Nat} {Q : State → Prop} {cc : ByteArray} {pc : Nat} {ls : Array Slot} {rest : List Value} {D : va_G} {cI cC : ClassId}
theorem mtQ_of {y : MethodName} {ws ws' : List Cond} {rm : Room} {av : List Value} {wc : va_W} {S : Type} {post : Option Nat → S → Prop} {w1 : S → va_W} {maxL : Nat} {ret : Option FieldType} (hy : plainName y.cls = true) (hw : ws = Cond.code y cc maxL ret :: ws') (hlen : Nat.ble (lg_sl av).length maxL = true)
    (body : ∀ (p : Program) (e : Env) (s : State) (m : MethodId) (below : List Frame) (meth : Method) (c : Code) (A : Nat → Prop), p.tables.exec = Jvm.exec → c.code = cc → c.maxLocals = maxL → meth.sig.returnType = ret → (∀ w ∈ ws, w.before av.toArray s = true) → s.vm.findClass y.cls = some m.cls → meth.locks = false → nzP s → (∀ q : Nat, s.heap.size ≤ q → A q) → va_K D vwCl (tyG cI cC) s → va_P D vwCl wc s.heap → va_D A wc → va_S A s.heap s.heap [] → ∀ ls : Array Slot, lv_has ls maxL (lv_args 0 av) →
      W p l e (headSpec ws rm).room s m av.toArray below meth c s.heap [] 0 0 (MQ below (va_Qq post (ctB D cI cC w1 A) A) av.toArray s 0 0 A) (F0 m 0 ls [])) : mtQ l D cI cC y ws rm av wc post w1 := by
  intro sz
  refine Met.ofW (cc := cc) (maxL := maxL) (ret := ret) hy hw ?_
  intro p e s m args below meth c s₁ B hml hv
  obtain ⟨rfl, hsz, hP, hK, hD0, hN⟩ := hv
  subst hsz
  rw [lg_entry_eq]
  exact body p e s m below meth c _ B.exec B.bytes hml B.returns (atoms_spec (ws := ws) B.pre) (findClass_of_methodNamed B.named) B.notSynchronized hN (fun q h => Or.inr h) hK hP hD0.self va_S.rf _ (lv_entry av (n := maxL) (Nat.le_of_ble_eq_true hlen))
theorem x_aret {S : Type} {post : Option Nat → S → Prop} {w1 : S → va_W} {A : Nat → Prop} {v : Value} {nm : String} (r : Option Nat) (hv : v = va_rf r) (hx : p.tables.exec = Jvm.exec) (hb : c.code = cc) (hr : meth.sig.returnType = some (.object nm)) (hlocks : meth.locks = false) (hdg : decode cc pc = .ok (.areturn, 1)) (u : S) (hp : post r u) (hK : va_K D vwCl (tyG cI cC) s) (hP : va_P D vwCl (w1 u) H) (hD : va_D A (w1 u)) (hS : va_S A s.heap H locs) :
    W p l e R s m args below meth c H locs 0 0 (MQ below (va_Qq post (ctB D cI cC w1 A) A) args s 0 0 A) (F0 m pc ls [v]) := by
  subst hv
  exact W.aret hx hb hr (Or.inl ⟨nm, rfl⟩) (by cases r with | none => exact Or.inl rfl | some a => exact Or.inr ⟨a, rfl⟩) (fun t ht hW => ⟨⟨r, u, rfl, hp, by rw [ht]; exact hP, va_K.moved hW.alike hK, hD⟩, hS.F ht⟩) hS.2.2 hdg hlocks
theorem k_Q {A : Nat → Prop} {S : Type} {post : Option Nat → S → Prop} {w1 : S → va_W} {ws wc wr : va_W} {y : MethodName} {wsy Ts : List Cond} {rm : Room} {b q0 ci n nL maxL index : Nat} {As : List Value} {own : String} {bytes : ByteArray} {ret : Option FieldType} {q : vw_C} {fs : List Value} {st : List Value}
    (SF : CallFix p m c cc nL s args Ts own) (hM : mtQ l D cI cC y wsy rm (.ref b :: As) wc post w1) (cw : CallW R s args own q.1 index y bytes maxL ret wsy rm 0 0 n) (hn : As.length = n) (hl : ls.size = nL) (hst : st = As.reverse ++ .ref b :: rest) (hroom : (rest.map fun v => v.category).sum ≤ 8) (hdg : decode cc pc = .ok (.invokevirtual index, 3)) (hf : cells ≤ R.cells ∧ slots ≤ R.slots)
    (hN : nzP s) (hK : va_K D vwCl (tyG cI cC) s) (hP : va_P D vwCl ws H) (hD : va_D A ws) (hS : va_S A H0 H locs) (hA : ∀ q : Nat, H0.size ≤ q → A q) (hci : vwCl[ci]? = some q) (hrc : ws[q0]? = some (b, .inr (ci, fs)))
    (isC isR : List Nat) (hC : isC.map (fun i => ws[i]?) = wc.map some) (hR : isR.map (fun i => ws[i]?) = wr.map some) (hnd : va_nd isC = true ∧ va_nd isR = true ∧ ∀ i ∈ isR, i ∉ isC)
    (kk : ∀ (r : Option Nat) (u : S) (H1 : Heap) (locs1 : List Loc), post r u → va_P D vwCl (wr ++ w1 u) H1 → va_D A (wr ++ w1 u) → va_S A H0 H1 locs1 → W p l e R s m args below meth c H1 locs1 cells slots Q (F0 m (pc + 3) ls (va_rf r :: rest))) :
    W p l e R s m args below meth c H locs cells slots Q (F0 m pc ls st) := by
  subst hst
  have hF := va_free (wc := wc) hD hS hA isC hC
  refine va_callq (va_runV (rest := rest) SF (hM H.size) cw ⟨ctP_blind, va_recv hK hP hci hrc, k_pre (av := .ref b :: As) hK hN hP hD isC hnd.1 hC⟩ rfl hn hl rfl (lv_room hroom) hdg hf) hS (fun q _ h => hF q h) hF (fun r u t H1 locs1 ht hvm hw hB hz1 hk1 hS1 => ?_)
  obtain ⟨hP1, hD1⟩ := k_join hP hD hS hA isC isR hC hR hnd.2.1 hnd.2.2 ht hB hk1
  exact kk r u H1 locs1 hw hP1 hD1 hS1
theorem x_aald {ws : va_W} {a i n v : Nat} {cA : ClassId} {f : Nat → Option Nat} (hx : p.tables.exec = Jvm.exec) (hb : c.code = cc) (hK : va_K D vwCl (tyG cI cA) s) (hP : va_P D vwCl ws H) (q0 : Nat) (ha : ws[q0]? = some (a, eArC cA n f)) (hdg : decode cc pc = .ok (.aaload, 1)) (hi : i < n) (hn : n < 2147483648) (hv : f i = some v) (k : W p l e R s m args below meth c H locs cells slots Q (F0 m (pc + 1) ls (.ref v :: rest))) : W p l e R s m args below meth c H locs cells slots Q (F0 m pc ls (.int (nI i) :: .ref a :: rest)) :=
  va_aldq hx hb hK hP q0 1 ha rfl (nI_vin hi hn) hdg (by rw [nI_cl (by omega), hv]; exact k)
theorem x_aast {A : Nat → Prop} {ws : va_W} {a i n v : Nat} {vs : List Value} {cA : ClassId} {f : Nat → Option Nat} (hx : p.tables.exec = Jvm.exec) (hb : c.code = cc) (hK : va_K D vwCl (tyG cI cA) s) (hP : va_P D vwCl ws H) (hD : va_D A ws) (hS : va_S A H0 H locs) (q0 qk : Nat) (ha : ws[q0]? = some (a, eArC cA n f)) (hv : ws[qk]? = some (v, .inr (0, vs))) (hdg : decode cc pc = .ok (.aastore, 1)) (hi : i < n) (hn : n < 2147483648)
    (kk : ∀ (H1 : Heap) (locs1 : List Loc), va_P D vwCl (ws.set q0 (a, eArC cA n (va_up f i (some v)))) H1 → va_D A (ws.set q0 (a, eArC cA n (va_up f i (some v)))) → va_S A H0 H1 locs1 → W p l e R s m args below meth c H1 locs1 cells slots Q (F0 m (pc + 1) ls rest)) : W p l e R s m args below meth c H locs cells slots Q (F0 m pc ls (.ref v :: .int (nI i) :: .ref a :: rest)) :=
  va_astq hx hb hK hP hD hS q0 1 qk 0 (r := (RX0, TX0, 6)) ha rfl hv rfl (nI_vin hi hn) hdg (by rw [nI_cl (by omega)]; exact kk)
end QR
/-- an array of references told otherwise, where it agrees on its places -/
theorem va_P_arq {D : va_G} {H : Heap} {ws : va_W} {a n : Nat} {cC : ClassId} {g g' : Nat → Option Nat} (h : va_P D vwCl ws H) (k : Nat) (hk : ws[k]? = some (a, eArC cC n g)) (e : ∀ j, j < n → g j = g' j) : va_P D vwCl (ws.set k (a, eArC cC n g')) H := by
  intro i q hq
  by_cases hi : i = k
  · subst hi
    rw [List.getElem?_set_self (List.getElem?_eq_some_iff.mp hk).1] at hq
    cases hq
    have h1 : H[a]? = some (vp_cell cC (n, .inr (.inr (.inr (.inr g))))) := h i _ hk
    show H[a]? = some (vp_cell cC (n, .inr (.inr (.inr (.inr g')))))
    rw [h1]
    congr 1
    rw [vp_cell_q, vp_cell_q]
    unfold arrV
    congr 1
    apply Array.ext
    · simp
    · intro j h1 h2
      simp only [Array.size_ofFn] at h1
      simp only [Array.getElem_ofFn]
      rw [e j h1]
  · rw [List.getElem?_set_ne (Ne.symm hi)] at hq
    exact h i q hq
