def NP (D : va_G) (tys : List (ClassId × FieldType)) (WS : va_W) (sz : Nat) (U : State) : Prop := U.heap.size = sz ∧ va_P D classes WS U.heap ∧ va_K D classes tys U ∧ va_D (fun _ => True) WS ∧ nwOk U
def MU (l : Launch) (y : MethodName) (b : ByteArray) (maxL : Nat) (ret : Option FieldType) (fr lo mc ms : Nat) (D : va_G) (tys : List (ClassId × FieldType)) (av : List Value) (WS : va_W) (OUT : Option Value → va_W → Prop) : Prop :=
  ∀ sz : Nat, Met l y (Cond.code y b maxL ret :: bigW) { frames := fr, cells := mc, slots := ms, locals := lo } (va_Pc av (NP D tys WS sz)) (MQc D WS sz OUT) mc ms (va_A WS sz)
theorem MU.intro {l : Launch} {y : MethodName} {b : ByteArray} {maxL : Nat} {ret : Option FieldType} {fr lo mc ms : Nat} {D : va_G} {tys : List (ClassId × FieldType)} {av : List Value} {WS : va_W} {OUT : Option Value → va_W → Prop} (hy : plainName y.cls = true) (hle : (lg_sl av).length ≤ maxL)
    (body : ∀ (p : Program) (e : Env) (s : State) (m : MethodId) (args : Array Value) (below : List Frame) (meth : Method) (c : Code) (R : Room) (A : Nat → Prop) (Q : State → Prop) (ls : Array Slot),
      p.tables.exec = Jvm.exec → c.code = b → meth.sig.returnType = ret → c.maxLocals = maxL → (∀ w ∈ Cond.code y b maxL ret :: bigW, w.before args s = true) → s.vm.findClass y.cls = some m.cls → meth.locks = false → meth.name = y.name → (∀ q : Nat, s.heap.size ≤ q → A q) → nwOk s → va_K D classes tys s →
      R.frames = fr → R.locals = lo → R.cells = mc → R.slots = ms → Q = MQ below (MQc D WS s.heap.size OUT) args s mc ms A → A = va_A WS s.heap.size → va_P D classes WS s.heap → va_D A WS → va_S A s.heap s.heap [] → lv_has ls maxL (lv_args 0 av) →
      W p l e R s m args below meth c s.heap [] 0 0 Q (F0 m 0 ls [])) : MU l y b maxL ret fr lo mc ms D tys av WS OUT := by
  intro sz
  refine Met.ofW (cc := b) (maxL := maxL) (ret := ret) hy rfl ?_
  intro p e s m args below meth c s₁ B hml hv
  obtain ⟨rfl, hsz, hP, hK, hD0, hN⟩ := hv
  subst hsz
  have hl := lv_entry av (n := maxL) hle
  rw [lg_entry_eq]
  generalize (lg_sl av ++ List.replicate (maxL - (lg_sl av).length) Slot.unset).toArray = ls at hl ⊢
  exact body p e s m _ below meth c _ _ _ ls B.exec B.bytes B.returns hml (atoms_spec B.pre) (findClass_of_methodNamed B.named) B.notSynchronized (name_of_methodNamed B.named B.method).1 (fun q h => Or.inr h) hN hK rfl rfl rfl rfl rfl rfl hP hD0.self va_S.rf hl
section CallsM
variable {p : Program} {l : Launch} {e : Env} {R : Room} {s : State} {m : MethodId} {args : Array Value} {below : List Frame} {meth : Method} {c : Code} {H : Heap} {locs : List Loc} {cells slots : Nat} {Q : State → Prop} {cc b' : ByteArray} {pc nL maxL' idx n fr lo mc ms : Nat} {ls : Array Slot} {D : va_G} {tys : List (ClassId × FieldType)} {A : Nat → Prop} {ws WC wr : va_W} {OUT : Option Value → va_W → Prop} {As rest st : List Value} {bA : Nat} {own host : String} {y : MethodName} {ret' : Option FieldType} {x : Cond}
theorem mq_blind {av : List Value} {sz : Nat} : FrameBlind (va_Pc av (NP D tys WC sz)) := fun a U g mk q => by
  obtain ⟨q0, q1, qP, qK, qD, qN⟩ := q
  exact ⟨q0, q1, qP, va_K.moved (u := U) (U := U.calling g mk a) (Vm.Alike.refl U.vm) qK, qD, nwOk.same rfl qN⟩
theorem mq_pre {av : List Value} (hP : va_P D classes ws H) (hD : va_D A ws) (hK : va_K D classes tys s) (hN : nwOk s) (isC : List Nat) (hC : isC.map (fun i => ws[i]?) = WC.map some) (hn : va_nd isC = true) : ∀ U : State, U.heap = H → s.WarmedH U.vm → va_Pc av (NP D tys WC H.size) av.toArray U := by
  intro U hU hW
  refine ⟨rfl, by rw [hU], ?_, va_K.moved hW.alike hK, (hD.sub isC hn hC).weaken (fun _ _ _ _ => trivial), hN.warm hW⟩
  rw [hU]
  intro k q hk
  have h1 : (isC.map (fun i => ws[i]?))[k]? = some (some q) := by rw [hC, List.getElem?_map, hk]; rfl
  rw [List.getElem?_map] at h1
  cases hi : isC[k]? with
  | none => rw [hi] at h1; cases h1
  | some i => rw [hi] at h1; exact hP i q (Option.some.inj h1)
theorem cm_V (hx : p.tables.exec = Jvm.exec) (hb : c.code = cc) (hml : c.maxLocals = nL) (hown : s.vm.findClass own = some m.cls) (hts : ∀ w ∈ x :: bigW, w.before args s = true) (hN : nwOk s) (hK : va_K D classes tys s)
    (hP : va_P D classes ws H) (hD : va_D A ws) (hS : va_S A s.heap H locs) (hA : ∀ q : Nat, s.heap.size ≤ q → A q) (hl : ls.size = nL)
    (hM : MU l y b' maxL' ret' fr lo mc ms D tys (.ref bA :: As) WC OUT) (g : CWV own idx y b' maxL' ret' n)
    (isC isR : List Nat) (hC : isC.map (fun i => ws[i]?) = WC.map some) (hR : isR.map (fun i => ws[i]?) = wr.map some) (hnC : va_nd isC = true) (hn : va_nd isR = true) (hdis : ∀ i ∈ isR, i ∉ isC)
    {ci q0 : Nat} {T : u_T} {N : Nat} {fs : List Value} (hrc : ws[q0]? = some (bA, .inr (ci, fs))) (hcl : classes[ci]? = some (y.cls, T, N))
    (hfr : fr + 1 ≤ R.frames) (hlo : 8 + (maxL' + 11) + lo ≤ R.locals) (hcs : cells + mc ≤ R.cells ∧ slots + ms ≤ R.slots)
    (hnA : As.length = n) (hst : st = As.reverse ++ .ref bA :: rest) (hW : (rest.map fun v => v.category).sum ≤ 8) (hdg : decode cc pc = .ok (.invokevirtual idx, 3))
    (kk : ∀ (rv : Option Value) (WS' : va_W) (H1 : Heap) (locs1 : List Loc), OUT rv WS' → va_P D classes (wr ++ WS') H1 → va_D A (wr ++ WS') → va_S A s.heap H1 locs1 → W p l e R s m args below meth c H1 locs1 (cells + mc) (slots + ms) Q (F0 m (pc + 3) ls (rv.toList ++ rest))) : W p l e R s m args below meth c H locs cells slots Q (F0 m pc ls st) := by
  refine cl_core (va_runV (C := y.cls) (As := As) (rest := rest) (b := bA) ⟨hx, hb, hml, hown, hts⟩ (hM H.size) (cwV n hts (good_V g) rfl rfl rfl ⟨rfl, g.2.2.2.2.2⟩ ⟨hfr, hlo⟩) ⟨mq_blind, va_recv hK hP hcl hrc, ?_⟩ rfl hnA hl hst (lv_room hW) hdg hcs) hP hD hS hA isC isR hC hR hn hdis kk
  exact mq_pre (av := .ref bA :: As) hP hD hK hN isC hC hnC
theorem cm_S (hx : p.tables.exec = Jvm.exec) (hb : c.code = cc) (hml : c.maxLocals = nL) (hown : s.vm.findClass own = some m.cls) (hts : ∀ w ∈ x :: bigW, w.before args s = true) (hN : nwOk s) (hK : va_K D classes tys s)
    (hP : va_P D classes ws H) (hD : va_D A ws) (hS : va_S A s.heap H locs) (hA : ∀ q : Nat, s.heap.size ≤ q → A q) (hl : ls.size = nL)
    (hM : MU l y b' maxL' ret' fr lo mc ms D tys As WC OUT) (g : CWS own idx y b' maxL' ret' n)
    (isC isR : List Nat) (hC : isC.map (fun i => ws[i]?) = WC.map some) (hR : isR.map (fun i => ws[i]?) = wr.map some) (hnC : va_nd isC = true) (hn : va_nd isR = true) (hdis : ∀ i ∈ isR, i ∉ isC)
    (hfr : fr + 1 ≤ R.frames) (hlo : 8 + (maxL' + 11) + lo ≤ R.locals) (hcs : cells + mc ≤ R.cells ∧ slots + ms ≤ R.slots)
    (hnA : As.length = n) (hst : st = As.reverse ++ rest) (hW : (rest.map fun v => v.category).sum ≤ 8) (hdg : decode cc pc = .ok (.invokestatic idx, 3))
    (kk : ∀ (rv : Option Value) (WS' : va_W) (H1 : Heap) (locs1 : List Loc), OUT rv WS' → va_P D classes (wr ++ WS') H1 → va_D A (wr ++ WS') → va_S A s.heap H1 locs1 → W p l e R s m args below meth c H1 locs1 (cells + mc) (slots + ms) Q (F0 m (pc + 3) ls (rv.toList ++ rest))) : W p l e R s m args below meth c H locs cells slots Q (F0 m pc ls st) := by
  refine cl_core (va_runS (As := As) (rest := rest) ⟨hx, hb, hml, hown, hts⟩ (hM H.size) (va_cwS n hts (good_S g) rfl rfl rfl g.2.2.2.2 ⟨hfr, hlo⟩) ⟨mq_blind, ?_⟩ rfl hnA hl hst (lv_room hW) hdg hcs) hP hD hS hA isC isR hC hR hn hdis kk
  exact mq_pre (av := As) hP hD hK hN isC hC hnC
theorem cm_I (hx : p.tables.exec = Jvm.exec) (hb : c.code = cc) (hml : c.maxLocals = nL) (hown : s.vm.findClass own = some m.cls) (hts : ∀ w ∈ x :: bigW, w.before args s = true) (hN : nwOk s) (hK : va_K D classes tys s)
    (hP : va_P D classes ws H) (hD : va_D A ws) (hS : va_S A s.heap H locs) (hA : ∀ q : Nat, s.heap.size ≤ q → A q) (hl : ls.size = nL)
    (hM : MU l y b' maxL' none fr lo mc ms D tys (.ref bA :: As) WC OUT) (g : CWI own idx y b' maxL' n)
    (isC isR : List Nat) (hC : isC.map (fun i => ws[i]?) = WC.map some) (hR : isR.map (fun i => ws[i]?) = wr.map some) (hnC : va_nd isC = true) (hn : va_nd isR = true) (hdis : ∀ i ∈ isR, i ∉ isC)
    (hfr : fr + 1 ≤ R.frames) (hlo : 8 + (maxL' + 11) + lo ≤ R.locals) (hcs : cells + mc ≤ R.cells ∧ slots + ms ≤ R.slots)
    (hnA : As.length = n) (hst : st = As.reverse ++ .ref bA :: rest) (hW : (rest.map fun v => v.category).sum ≤ 8) (hdg : decode cc pc = .ok (.invokespecial idx, 3))
    (kk : ∀ (rv : Option Value) (WS' : va_W) (H1 : Heap) (locs1 : List Loc), OUT rv WS' → va_P D classes (wr ++ WS') H1 → va_D A (wr ++ WS') → va_S A s.heap H1 locs1 → W p l e R s m args below meth c H1 locs1 (cells + mc) (slots + ms) Q (F0 m (pc + 3) ls (rv.toList ++ rest))) : W p l e R s m args below meth c H locs cells slots Q (F0 m pc ls st) := by
  obtain ⟨g1, g2, g3, g4, g5, g6⟩ := g
  refine cl_core (va_runI (As := As) (rest := rest) (b := bA) ⟨hx, hb, hml, hown, hts⟩ (hM H.size) (cwI n hts (big_ws g1) rfl rfl rfl (hts _ (List.mem_cons_of_mem _ g4)) (hts _ (List.mem_cons_of_mem _ g2)) (hts _ (List.mem_cons_of_mem _ g3)) g5 g6 ⟨hfr, hlo⟩) ⟨mq_blind, ?_⟩ rfl hnA hl hst (lv_room hW) hdg hcs) hP hD hS hA isC isR hC hR hn hdis kk
  exact mq_pre (av := .ref bA :: As) hP hD hK hN isC hC hnC
end CallsM

