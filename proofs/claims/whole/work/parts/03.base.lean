/-! BASE: one form of contract for every method (MT), one law for each kind of call, one for each kind of return -/
abbrev RS : Type := Int32 × Nat × (Nat → Int32) × Int32
theorem ite_t {α : Type} {c : Prop} [Decidable c] {a b z : α} (h : (if c then a else b) = z) (hc : c) : a = z := by
  rw [if_pos hc] at h; exact h
theorem ite_f {α : Type} {c : Prop} [Decidable c] {a b z : α} (h : (if c then a else b) = z) (hc : ¬ c) : b = z := by
  rw [if_neg hc] at h; exact h
theorem gd {α : Type} {c : Prop} [Decidable c] {a : Option α} {z : α} (h : (if c then a else none) = some z) : c ∧ a = some z := by
  by_cases hc : c
  · exact ⟨hc, by rw [if_pos hc] at h; exact h⟩
  · rw [if_neg hc] at h; cases h
theorem bd {α β : Type} {x : Option α} {K : α → Option β} {z : β} (h : x.bind K = some z) : ∃ q, x = some q ∧ K q = some z := by
  cases x with
  | none => cases h
  | some q => exact ⟨q, rfl, h⟩
theorem le_r {a b c : Nat} (h : c = b) (h2 : Nat.ble a b = true) : a ≤ c := by rw [h]; exact Nat.le_of_ble_eq_true h2
def FU : Nat := 10000000000
/-- the nest mates' words, by their parts -/
def nwOk (U : State) : Prop := (∀ q ∈ nestF, va_Nw (.fieldLinkNest q.1 q.2.1 q.2.2.1 q.2.2.2.1 q.2.2.2.2.1 q.2.2.2.2.2) U) ∧ (∀ q ∈ nestM, va_Nw (.methodLinkNest q.1 q.2.1 q.2.2.1 q.2.2.2) U)
theorem nwOk.warm {s U : State} (hW : s.WarmedH U.vm) (h : nwOk s) : nwOk U := ⟨fun q hq => va_Nw.warmF hW (h.1 q hq), fun q hq => va_Nw.warmM hW (h.2 q hq)⟩
theorem nwOk.same {s U : State} (hv : s.vm = U.vm) (h : nwOk s) : nwOk U := ⟨fun q hq => va_Nw.same rfl hv (h.1 q hq), fun q hq => va_Nw.same rfl hv (h.2 q hq)⟩
def MP (D : va_G) (cA : ClassId) (WS : va_W) (sz : Nat) (U : State) : Prop := U.heap.size = sz ∧ va_P D classes WS U.heap ∧ va_K D classes [(cA, .int)] U ∧ va_D (fun _ => True) WS ∧ nwOk U
def MQc (D : va_G) (WS : va_W) (sz : Nat) (OUT : Option Value → va_W → Prop) : Array Value → State → Outcome → State → Prop := fun _ st oc t => (∃ (rv : Option Value) (WS' : va_W), oc = .returned rv ∧ OUT rv WS' ∧ va_P D classes WS' t.heap ∧ va_D (va_A WS sz) WS') ∧ va_F (va_A WS sz) st t
def MT (l : Launch) (y : MethodName) (b : ByteArray) (maxL : Nat) (ret : Option FieldType) (fr lo mc ms : Nat) (D : va_G) (cA : ClassId) (av : List Value) (WS : va_W) (OUT : Option Value → va_W → Prop) : Prop :=
  ∀ sz : Nat, Met l y (Cond.code y b maxL ret :: bigW) { frames := fr, cells := mc, slots := ms, locals := lo } (va_Pc av (MP D cA WS sz)) (MQc D WS sz OUT) mc ms (va_A WS sz)
theorem MT.intro {l : Launch} {y : MethodName} {b : ByteArray} {maxL : Nat} {ret : Option FieldType} {fr lo mc ms : Nat} {D : va_G} {cA : ClassId} {av : List Value} {WS : va_W} {OUT : Option Value → va_W → Prop} (hy : plainName y.cls = true) (hle : (lg_sl av).length ≤ maxL)
    (body : ∀ (p : Program) (e : Env) (s : State) (m : MethodId) (args : Array Value) (below : List Frame) (meth : Method) (c : Code) (R : Room) (A : Nat → Prop) (Q : State → Prop) (ls : Array Slot),
      p.tables.exec = Jvm.exec → c.code = b → meth.sig.returnType = ret → c.maxLocals = maxL → (∀ w ∈ Cond.code y b maxL ret :: bigW, w.before args s = true) → s.vm.findClass y.cls = some m.cls → meth.locks = false → meth.name = y.name → (∀ q : Nat, s.heap.size ≤ q → A q) → nwOk s → va_K D classes [(cA, .int)] s →
      R.frames = fr → R.locals = lo → R.cells = mc → R.slots = ms → Q = MQ below (MQc D WS s.heap.size OUT) args s mc ms A → A = va_A WS s.heap.size → va_P D classes WS s.heap → va_D A WS → va_S A s.heap s.heap [] → lv_has ls maxL (lv_args 0 av) →
      W p l e R s m args below meth c s.heap [] 0 0 Q (F0 m 0 ls [])) : MT l y b maxL ret fr lo mc ms D cA av WS OUT := by
  intro sz
  refine Met.ofW (cc := b) (maxL := maxL) (ret := ret) hy rfl ?_
  intro p e s m args below meth c s₁ B hml hv
  obtain ⟨rfl, hsz, hP, hK, hD0, hN⟩ := hv
  subst hsz
  have hl := lv_entry av (n := maxL) hle
  rw [lg_entry_eq]
  generalize (lg_sl av ++ List.replicate (maxL - (lg_sl av).length) Slot.unset).toArray = ls at hl ⊢
  exact body p e s m _ below meth c _ _ _ ls B.exec B.bytes B.returns hml (atoms_spec B.pre) (findClass_of_methodNamed B.named) B.notSynchronized (name_of_methodNamed B.named B.method).1 (fun q h => Or.inr h) hN hK rfl rfl rfl rfl rfl rfl hP hD0.self va_S.rf hl
section FinB
variable {p : Program} {l : Launch} {e : Env} {R : Room} {s : State} {m : MethodId} {args : Array Value} {below : List Frame} {meth : Method} {c : Code} {H : Heap} {locs : List Loc} {cells slots : Nat} {Q : State → Prop} {cc : ByteArray} {pc mc ms : Nat} {ls : Array Slot} {D : va_G} {A : Nat → Prop} {WS WS' : va_W} {OUT : Option Value → va_W → Prop}
theorem fin_i {v : Int32} (hx : p.tables.exec = Jvm.exec) (hb : c.code = cc) (hr : meth.sig.returnType = some .int) (hlocks : meth.locks = false) (hQ : Q = MQ below (MQc D WS s.heap.size OUT) args s mc ms A) (hA : A = va_A WS s.heap.size) (hS : va_S A s.heap H locs) (hP : va_P D classes WS' H) (hD : va_D A WS') (hO : OUT (some (.int v)) WS') (h1 : cells ≤ mc) (h2 : slots ≤ ms) (hdg : decode cc pc = .ok (.ireturn, 1)) : W p l e R s m args below meth c H locs cells slots Q (F0 m pc ls [.int v]) := by
  subst hQ
  refine W.widen h1 h2 ?_
  exact W.iret hx hb hr (fun t ht hW => ⟨⟨_, WS', rfl, hO, by rw [ht]; exact hP, by rw [← hA]; exact hD⟩, by rw [← hA]; exact hS.F ht⟩) hS.2.2 hdg hlocks
theorem fin_z {v : Int32} (hx : p.tables.exec = Jvm.exec) (hb : c.code = cc) (hr : meth.sig.returnType = some .boolean) (hlocks : meth.locks = false) (hQ : Q = MQ below (MQc D WS s.heap.size OUT) args s mc ms A) (hA : A = va_A WS s.heap.size) (hS : va_S A s.heap H locs) (hP : va_P D classes WS' H) (hD : va_D A WS') (hO : OUT (some (.int v)) WS') (h1 : cells ≤ mc) (h2 : slots ≤ ms) (hdg : decode cc pc = .ok (.ireturn, 1)) (hv : v = 0 ∨ v = 1) : W p l e R s m args below meth c H locs cells slots Q (F0 m pc ls [.int v]) := by
  subst hQ
  refine W.widen h1 h2 ?_
  exact W.zret hx hb hr (by rcases hv with rfl | rfl <;> rfl) (fun t ht hW => ⟨⟨_, WS', rfl, hO, by rw [ht]; exact hP, by rw [← hA]; exact hD⟩, by rw [← hA]; exact hS.F ht⟩) hS.2.2 hdg hlocks
theorem fin_v (hx : p.tables.exec = Jvm.exec) (hb : c.code = cc) (hr : meth.sig.returnType = none) (hlocks : meth.locks = false) (hQ : Q = MQ below (MQc D WS s.heap.size OUT) args s mc ms A) (hA : A = va_A WS s.heap.size) (hS : va_S A s.heap H locs) (hP : va_P D classes WS' H) (hD : va_D A WS') (hO : OUT none WS') (h1 : cells ≤ mc) (h2 : slots ≤ ms) (hdg : decode cc pc = .ok (.return_, 1)) : W p l e R s m args below meth c H locs cells slots Q (F0 m pc ls []) := by
  subst hQ
  refine W.widen h1 h2 ?_
  exact W.vret hx hb hr (fun t ht hW => ⟨⟨_, WS', rfl, hO, by rw [ht]; exact hP, by rw [← hA]; exact hD⟩, by rw [← hA]; exact hS.F ht⟩) hS.2.2 hdg hlocks
theorem fin_a {v : Nat} {rt : FieldType} (hx : p.tables.exec = Jvm.exec) (hb : c.code = cc) (hr : meth.sig.returnType = some rt) (hrt : (∃ n, rt = .object n) ∨ ∃ t, rt = .array t) (hlocks : meth.locks = false) (hQ : Q = MQ below (MQc D WS s.heap.size OUT) args s mc ms A) (hA : A = va_A WS s.heap.size) (hS : va_S A s.heap H locs) (hP : va_P D classes WS' H) (hD : va_D A WS') (hO : OUT (some (.ref v)) WS') (h1 : cells ≤ mc) (h2 : slots ≤ ms) (hdg : decode cc pc = .ok (.areturn, 1)) : W p l e R s m args below meth c H locs cells slots Q (F0 m pc ls [.ref v]) := by
  subst hQ
  refine W.widen h1 h2 ?_
  exact W.aret hx hb hr hrt (Or.inr ⟨v, rfl⟩) (fun t ht hW => ⟨⟨_, WS', rfl, hO, by rw [ht]; exact hP, by rw [← hA]; exact hD⟩, by rw [← hA]; exact hS.F ht⟩) hS.2.2 hdg hlocks
end FinB
section CallsB
variable {p : Program} {l : Launch} {e : Env} {R : Room} {s : State} {m : MethodId} {args : Array Value} {below : List Frame} {meth : Method} {c : Code} {H : Heap} {locs : List Loc} {cells slots : Nat} {Q : State → Prop} {cc b' : ByteArray} {pc nL maxL' idx n fr lo mc ms : Nat} {ls : Array Slot} {D : va_G} {cA : ClassId} {A : Nat → Prop} {ws WC wr : va_W} {OUT : Option Value → va_W → Prop} {As rest st : List Value} {bA : Nat} {own host : String} {y : MethodName} {ret' : Option FieldType} {x : Cond}
theorem cl_core {a : Array Value} (hr : va_Run p l e R s m args below meth c H locs cells slots mc ms (F0 m pc ls st) rest (MQc D WC H.size OUT a) (va_A WC H.size)) (hP : va_P D classes ws H) (hD : va_D A ws) (hS : va_S A s.heap H locs) (hA : ∀ q : Nat, s.heap.size ≤ q → A q)
    (isC isR : List Nat) (hC : isC.map (fun i => ws[i]?) = WC.map some) (hR : isR.map (fun i => ws[i]?) = wr.map some) (hn : va_nd isR = true) (hdis : ∀ i ∈ isR, i ∉ isC)
    (kk : ∀ (rv : Option Value) (WS' : va_W) (H1 : Heap) (locs1 : List Loc), OUT rv WS' → va_P D classes (wr ++ WS') H1 → va_D A (wr ++ WS') → va_S A s.heap H1 locs1 → W p l e R s m args below meth c H1 locs1 (cells + mc) (slots + ms) Q (F0 m (pc + 3) ls (rv.toList ++ rest))) : W p l e R s m args below meth c H locs cells slots Q (F0 m pc ls st) := by
  intro T hT X
  obtain ⟨v, st₀, t, T', L, h0, X', hL, e1, e2, ⟨⟨rv, WS', hv, hO, hP1, hD1⟩, hz, hk⟩, hst⟩ := hr T hT X
  cases hv
  rw [h0] at hz hk
  have hFc := va_free (wc := WC) hD hS hA isC hC
  rw [← e1] at hP1 hz hk
  obtain ⟨hP2, hD2⟩ := va_join (wr := wr) (w1 := WS') hP hD isC isR hC hR hn hdis hk hFc hP1 hD1
  obtain ⟨t2, a1, b1⟩ := kk _ WS' T'.heap (locs ++ L) hO hP2 hD2 ⟨Nat.le_trans hS.1 hz, fun q h1 h2 => by rw [hk q (Nat.lt_of_lt_of_le h1 hS.1) (fun z => h2 (hFc q z))]; exact hS.2.1 q h1 h2, fun q hq => by
      rcases List.mem_append.mp hq with h | h
      · exact hS.2.2 q h
      · exact hFc _ (hL q h)⟩ T' rfl X'
  exact ⟨t2, hst t2 a1, b1⟩
theorem mp_blind {av : List Value} {sz : Nat} : FrameBlind (va_Pc av (MP D cA WC sz)) := fun a U g mk q => by
  obtain ⟨q0, q1, qP, qK, qD, qN⟩ := q
  exact ⟨q0, q1, qP, va_K.moved (u := U) (U := U.calling g mk a) (Vm.Alike.refl U.vm) qK, qD, nwOk.same rfl qN⟩
theorem mp_pre {av : List Value} (hP : va_P D classes ws H) (hD : va_D A ws) (hK : va_K D classes [(cA, .int)] s) (hN : nwOk s) (isC : List Nat) (hC : isC.map (fun i => ws[i]?) = WC.map some) (hn : va_nd isC = true) : ∀ U : State, U.heap = H → s.WarmedH U.vm → va_Pc av (MP D cA WC H.size) av.toArray U := by
  intro U hU hW
  refine ⟨rfl, by rw [hU], ?_, va_K.moved hW.alike hK, (hD.sub isC hn hC).weaken (fun _ _ _ _ => trivial), hN.warm hW⟩
  rw [hU]
  intro k q hk
  have h1 : (isC.map (fun i => ws[i]?))[k]? = some (some q) := by rw [hC, List.getElem?_map, hk]; rfl
  rw [List.getElem?_map] at h1
  cases hi : isC[k]? with
  | none => rw [hi] at h1; cases h1
  | some i => rw [hi] at h1; exact hP i q (Option.some.inj h1)
theorem big_good : ∀ w ∈ bigW, w ∈ x :: bigW ∧ ((w.onTables && w.keeps) = true ∨ ∃ ty, w = .arrayClass ty) := fun w h => ⟨List.mem_cons_of_mem _ h, good_of_word (List.mem_filter.mp h).2⟩
theorem big_ws (h5 : Cond.code y b' maxL' ret' ∈ bigW) : GoodIn (x :: bigW) (Cond.code y b' maxL' ret' :: bigW) := by
  intro w hw
  rcases List.mem_cons.mp hw with rfl | hw
  · exact big_good _ h5
  · exact big_good _ hw
/-- what a call of an instance method rests on, but for the world -/
def CWV (own : String) (idx : Nat) (y : MethodName) (b : ByteArray) (maxL : Nat) (ret : Option FieldType) (n : Nat) : Prop := Cond.code y b maxL ret ∈ bigW ∧ Cond.methodLink own idx y ∈ bigW ∧ Cond.instanceMethod y ∈ bigW ∧ Cond.selects y.cls y y ∈ bigW ∧ Cond.initialized y.cls ∈ bigW ∧ (y.cls ≠ "java/lang/invoke/MethodHandle" ∧ y.cls ≠ "java/lang/invoke/VarHandle" ∧ (parseMethodDescriptor y.desc).map (fun d => d.parameters.length) = some n)
def CWS (own : String) (idx : Nat) (y : MethodName) (b : ByteArray) (maxL : Nat) (ret : Option FieldType) (n : Nat) : Prop := Cond.code y b maxL ret ∈ bigW ∧ Cond.methodLink own idx y ∈ bigW ∧ Cond.static y ∈ bigW ∧ Cond.initialized y.cls ∈ bigW ∧ (y.cls ≠ "java/lang/invoke/MethodHandle" ∧ y.cls ≠ "java/lang/invoke/VarHandle" ∧ (parseMethodDescriptor y.desc).map (fun d => d.parameters.length) = some n)
def CWN (host : String) (own : String) (idx : Nat) (y : MethodName) (b : ByteArray) (maxL : Nat) (ret : Option FieldType) (n : Nat) : Prop := Cond.code y b maxL ret ∈ bigW ∧ (own, idx, y, host) ∈ nestM ∧ Cond.static y ∈ bigW ∧ Cond.initialized y.cls ∈ bigW ∧ (y.cls ≠ "java/lang/invoke/MethodHandle" ∧ y.cls ≠ "java/lang/invoke/VarHandle" ∧ (parseMethodDescriptor y.desc).map (fun d => d.parameters.length) = some n)
def CWI (own : String) (idx : Nat) (y : MethodName) (b : ByteArray) (maxL : Nat) (n : Nat) : Prop := Cond.code y b maxL none ∈ bigW ∧ Cond.methodLink own idx y ∈ bigW ∧ Cond.instanceMethod y ∈ bigW ∧ Cond.initialized y.cls ∈ bigW ∧ y.name = "<init>" ∧ (y.cls ≠ "java/lang/invoke/MethodHandle" ∧ y.cls ≠ "java/lang/invoke/VarHandle" ∧ (parseMethodDescriptor y.desc).map (fun d => d.parameters.length) = some n)
theorem good_V (g : CWV own idx y b' maxL' ret' n) : GoodIn (x :: bigW) (wsV own idx y.cls y (Cond.code y b' maxL' ret' :: bigW)) := by
  obtain ⟨h5, h1, h2, h3, h4, -⟩ := g
  intro w hw
  unfold wsV at hw
  rcases List.mem_append.mp hw with hw | hw
  · simp only [List.mem_cons, List.not_mem_nil, or_false] at hw
    rcases hw with rfl | rfl | rfl | rfl
    · exact big_good _ h1
    · exact big_good _ h2
    · exact big_good _ h3
    · exact big_good _ h4
  · exact big_ws h5 w hw
theorem good_S (g : CWS own idx y b' maxL' ret' n) : GoodIn (x :: bigW) (va_wsS own idx y (Cond.code y b' maxL' ret' :: bigW)) := by
  obtain ⟨h5, h1, h2, h4, -⟩ := g
  intro w hw
  unfold va_wsS at hw
  rcases List.mem_append.mp hw with hw | hw
  · simp only [List.mem_cons, List.not_mem_nil, or_false] at hw
    rcases hw with rfl | rfl | rfl
    · exact big_good _ h1
    · exact big_good _ h2
    · exact big_good _ h4
  · exact big_ws h5 w hw
theorem cl_V (hx : p.tables.exec = Jvm.exec) (hb : c.code = cc) (hml : c.maxLocals = nL) (hown : s.vm.findClass own = some m.cls) (hts : ∀ w ∈ x :: bigW, w.before args s = true) (hN : nwOk s) (hK : va_K D classes [(cA, .int)] s)
    (hP : va_P D classes ws H) (hD : va_D A ws) (hS : va_S A s.heap H locs) (hA : ∀ q : Nat, s.heap.size ≤ q → A q) (hl : ls.size = nL)
    (hM : MT l y b' maxL' ret' fr lo mc ms D cA (.ref bA :: As) WC OUT) (g : CWV own idx y b' maxL' ret' n)
    (isC isR : List Nat) (hC : isC.map (fun i => ws[i]?) = WC.map some) (hR : isR.map (fun i => ws[i]?) = wr.map some) (hnC : va_nd isC = true) (hn : va_nd isR = true) (hdis : ∀ i ∈ isR, i ∉ isC)
    {ci q0 : Nat} {T : u_T} {N : Nat} {fs : List Value} (hrc : ws[q0]? = some (bA, .inr (ci, fs))) (hcl : classes[ci]? = some (y.cls, T, N))
    (hfr : fr + 1 ≤ R.frames) (hlo : 8 + (maxL' + 11) + lo ≤ R.locals) (hcs : cells + mc ≤ R.cells ∧ slots + ms ≤ R.slots)
    (hnA : As.length = n) (hst : st = As.reverse ++ .ref bA :: rest) (hW : (rest.map fun v => v.category).sum ≤ 8) (hdg : decode cc pc = .ok (.invokevirtual idx, 3))
    (kk : ∀ (rv : Option Value) (WS' : va_W) (H1 : Heap) (locs1 : List Loc), OUT rv WS' → va_P D classes (wr ++ WS') H1 → va_D A (wr ++ WS') → va_S A s.heap H1 locs1 → W p l e R s m args below meth c H1 locs1 (cells + mc) (slots + ms) Q (F0 m (pc + 3) ls (rv.toList ++ rest))) : W p l e R s m args below meth c H locs cells slots Q (F0 m pc ls st) := by
  refine cl_core (va_runV (C := y.cls) (As := As) (rest := rest) (b := bA) ⟨hx, hb, hml, hown, hts⟩ (hM H.size) (cwV n hts (good_V g) rfl rfl rfl ⟨rfl, g.2.2.2.2.2⟩ ⟨hfr, hlo⟩) ⟨mp_blind, va_recv hK hP hcl hrc, ?_⟩ rfl hnA hl hst (lv_room hW) hdg hcs) hP hD hS hA isC isR hC hR hn hdis kk
  exact mp_pre (av := .ref bA :: As) hP hD hK hN isC hC hnC
theorem cl_S (hx : p.tables.exec = Jvm.exec) (hb : c.code = cc) (hml : c.maxLocals = nL) (hown : s.vm.findClass own = some m.cls) (hts : ∀ w ∈ x :: bigW, w.before args s = true) (hN : nwOk s) (hK : va_K D classes [(cA, .int)] s)
    (hP : va_P D classes ws H) (hD : va_D A ws) (hS : va_S A s.heap H locs) (hA : ∀ q : Nat, s.heap.size ≤ q → A q) (hl : ls.size = nL)
    (hM : MT l y b' maxL' ret' fr lo mc ms D cA As WC OUT) (g : CWS own idx y b' maxL' ret' n)
    (isC isR : List Nat) (hC : isC.map (fun i => ws[i]?) = WC.map some) (hR : isR.map (fun i => ws[i]?) = wr.map some) (hnC : va_nd isC = true) (hn : va_nd isR = true) (hdis : ∀ i ∈ isR, i ∉ isC)
    (hfr : fr + 1 ≤ R.frames) (hlo : 8 + (maxL' + 11) + lo ≤ R.locals) (hcs : cells + mc ≤ R.cells ∧ slots + ms ≤ R.slots)
    (hnA : As.length = n) (hst : st = As.reverse ++ rest) (hW : (rest.map fun v => v.category).sum ≤ 8) (hdg : decode cc pc = .ok (.invokestatic idx, 3))
    (kk : ∀ (rv : Option Value) (WS' : va_W) (H1 : Heap) (locs1 : List Loc), OUT rv WS' → va_P D classes (wr ++ WS') H1 → va_D A (wr ++ WS') → va_S A s.heap H1 locs1 → W p l e R s m args below meth c H1 locs1 (cells + mc) (slots + ms) Q (F0 m (pc + 3) ls (rv.toList ++ rest))) : W p l e R s m args below meth c H locs cells slots Q (F0 m pc ls st) := by
  refine cl_core (va_runS (As := As) (rest := rest) ⟨hx, hb, hml, hown, hts⟩ (hM H.size) (va_cwS n hts (good_S g) rfl rfl rfl g.2.2.2.2 ⟨hfr, hlo⟩) ⟨mp_blind, ?_⟩ rfl hnA hl hst (lv_room hW) hdg hcs) hP hD hS hA isC isR hC hR hn hdis kk
  exact mp_pre (av := As) hP hD hK hN isC hC hnC
theorem cl_N (hx : p.tables.exec = Jvm.exec) (hb : c.code = cc) (hml : c.maxLocals = nL) (hown : s.vm.findClass own = some m.cls) (hts : ∀ w ∈ x :: bigW, w.before args s = true) (hN : nwOk s) (hK : va_K D classes [(cA, .int)] s)
    (hP : va_P D classes ws H) (hD : va_D A ws) (hS : va_S A s.heap H locs) (hA : ∀ q : Nat, s.heap.size ≤ q → A q) (hl : ls.size = nL)
    (hM : MT l y b' maxL' ret' fr lo mc ms D cA As WC OUT) (g : CWN host own idx y b' maxL' ret' n)
    (isC isR : List Nat) (hC : isC.map (fun i => ws[i]?) = WC.map some) (hR : isR.map (fun i => ws[i]?) = wr.map some) (hnC : va_nd isC = true) (hn : va_nd isR = true) (hdis : ∀ i ∈ isR, i ∉ isC)
    (hfr : fr + 1 ≤ R.frames) (hlo : 8 + (maxL' + 11) + lo ≤ R.locals) (hcs : cells + mc ≤ R.cells ∧ slots + ms ≤ R.slots)
    (hnA : As.length = n) (hst : st = As.reverse ++ rest) (hW : (rest.map fun v => v.category).sum ≤ 8) (hdg : decode cc pc = .ok (.invokestatic idx, 3))
    (kk : ∀ (rv : Option Value) (WS' : va_W) (H1 : Heap) (locs1 : List Loc), OUT rv WS' → va_P D classes (wr ++ WS') H1 → va_D A (wr ++ WS') → va_S A s.heap H1 locs1 → W p l e R s m args below meth c H1 locs1 (cells + mc) (slots + ms) Q (F0 m (pc + 3) ls (rv.toList ++ rest))) : W p l e R s m args below meth c H locs cells slots Q (F0 m pc ls st) := by
  obtain ⟨g1, g2, g3, g4, g5⟩ := g
  refine cl_core (va_runSN (As := As) (rest := rest) ⟨hx, hb, hml, hown, hts⟩ (hM H.size) ⟨va_cnB n hts (big_ws g1) rfl rfl rfl (hN.2 _ g2) (hts _ (List.mem_cons_of_mem _ g4)) g5 ⟨hfr, hlo⟩, hts _ (List.mem_cons_of_mem _ g3), trivial⟩ ⟨mp_blind, ?_⟩ rfl hnA hl hst (lv_room hW) hdg hcs) hP hD hS hA isC isR hC hR hn hdis kk
  exact mp_pre (av := As) hP hD hK hN isC hC hnC
theorem cl_I (hx : p.tables.exec = Jvm.exec) (hb : c.code = cc) (hml : c.maxLocals = nL) (hown : s.vm.findClass own = some m.cls) (hts : ∀ w ∈ x :: bigW, w.before args s = true) (hN : nwOk s) (hK : va_K D classes [(cA, .int)] s)
    (hP : va_P D classes ws H) (hD : va_D A ws) (hS : va_S A s.heap H locs) (hA : ∀ q : Nat, s.heap.size ≤ q → A q) (hl : ls.size = nL)
    (hM : MT l y b' maxL' none fr lo mc ms D cA (.ref bA :: As) WC OUT) (g : CWI own idx y b' maxL' n)
    (isC isR : List Nat) (hC : isC.map (fun i => ws[i]?) = WC.map some) (hR : isR.map (fun i => ws[i]?) = wr.map some) (hnC : va_nd isC = true) (hn : va_nd isR = true) (hdis : ∀ i ∈ isR, i ∉ isC)
    (hfr : fr + 1 ≤ R.frames) (hlo : 8 + (maxL' + 11) + lo ≤ R.locals) (hcs : cells + mc ≤ R.cells ∧ slots + ms ≤ R.slots)
    (hnA : As.length = n) (hst : st = As.reverse ++ .ref bA :: rest) (hW : (rest.map fun v => v.category).sum ≤ 8) (hdg : decode cc pc = .ok (.invokespecial idx, 3))
    (kk : ∀ (rv : Option Value) (WS' : va_W) (H1 : Heap) (locs1 : List Loc), OUT rv WS' → va_P D classes (wr ++ WS') H1 → va_D A (wr ++ WS') → va_S A s.heap H1 locs1 → W p l e R s m args below meth c H1 locs1 (cells + mc) (slots + ms) Q (F0 m (pc + 3) ls (rv.toList ++ rest))) : W p l e R s m args below meth c H locs cells slots Q (F0 m pc ls st) := by
  obtain ⟨g1, g2, g3, g4, g5, g6⟩ := g
  refine cl_core (va_runI (As := As) (rest := rest) (b := bA) ⟨hx, hb, hml, hown, hts⟩ (hM H.size) (cwI n hts (big_ws g1) rfl rfl rfl (hts _ (List.mem_cons_of_mem _ g4)) (hts _ (List.mem_cons_of_mem _ g2)) (hts _ (List.mem_cons_of_mem _ g3)) g5 g6 ⟨hfr, hlo⟩) ⟨mp_blind, ?_⟩ rfl hnA hl hst (lv_room hW) hdg hcs) hP hD hS hA isC isR hC hR hn hdis kk
  exact mp_pre (av := .ref bA :: As) hP hD hK hN isC hC hnC
def CWJ (host own : String) (idx : Nat) (y : MethodName) (b : ByteArray) (maxL : Nat) (n : Nat) : Prop := Cond.code y b maxL none ∈ bigW ∧ (own, idx, y, host) ∈ nestM ∧ Cond.instanceMethod y ∈ bigW ∧ Cond.initialized y.cls ∈ bigW ∧ y.name = "<init>" ∧ (y.cls ≠ "java/lang/invoke/MethodHandle" ∧ y.cls ≠ "java/lang/invoke/VarHandle" ∧ (parseMethodDescriptor y.desc).map (fun d => d.parameters.length) = some n)
theorem cl_J (hx : p.tables.exec = Jvm.exec) (hb : c.code = cc) (hml : c.maxLocals = nL) (hown : s.vm.findClass own = some m.cls) (hts : ∀ w ∈ x :: bigW, w.before args s = true) (hN : nwOk s) (hK : va_K D classes [(cA, .int)] s)
    (hP : va_P D classes ws H) (hD : va_D A ws) (hS : va_S A s.heap H locs) (hA : ∀ q : Nat, s.heap.size ≤ q → A q) (hl : ls.size = nL)
    (hM : MT l y b' maxL' none fr lo mc ms D cA (.ref bA :: As) WC OUT) (g : CWJ host own idx y b' maxL' n)
    (isC isR : List Nat) (hC : isC.map (fun i => ws[i]?) = WC.map some) (hR : isR.map (fun i => ws[i]?) = wr.map some) (hnC : va_nd isC = true) (hn : va_nd isR = true) (hdis : ∀ i ∈ isR, i ∉ isC)
    (hfr : fr + 1 ≤ R.frames) (hlo : 8 + (maxL' + 11) + lo ≤ R.locals) (hcs : cells + mc ≤ R.cells ∧ slots + ms ≤ R.slots)
    (hnA : As.length = n) (hst : st = As.reverse ++ .ref bA :: rest) (hW : (rest.map fun v => v.category).sum ≤ 8) (hdg : decode cc pc = .ok (.invokespecial idx, 3))
    (kk : ∀ (rv : Option Value) (WS' : va_W) (H1 : Heap) (locs1 : List Loc), OUT rv WS' → va_P D classes (wr ++ WS') H1 → va_D A (wr ++ WS') → va_S A s.heap H1 locs1 → W p l e R s m args below meth c H1 locs1 (cells + mc) (slots + ms) Q (F0 m (pc + 3) ls (rv.toList ++ rest))) : W p l e R s m args below meth c H locs cells slots Q (F0 m pc ls st) := by
  obtain ⟨g1, g2, g3, g4, g5, g6⟩ := g
  refine cl_core (va_runIN (As := As) (rest := rest) (b := bA) ⟨hx, hb, hml, hown, hts⟩ (hM H.size) ⟨va_cnB n hts (big_ws g1) rfl rfl rfl (hN.2 _ g2) (hts _ (List.mem_cons_of_mem _ g4)) g6 ⟨hfr, hlo⟩, g5, hts _ (List.mem_cons_of_mem _ g3)⟩ ⟨mp_blind, ?_⟩ rfl hnA hl hst (lv_room hW) hdg hcs) hP hD hS hA isC isR hC hR hn hdis kk
  exact mp_pre (av := .ref bA :: As) hP hD hK hN isC hC hnC
end CallsB

