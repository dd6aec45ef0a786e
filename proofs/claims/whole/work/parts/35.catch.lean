/-! ===== a row of a method's table: taken, or passed ===== -/
theorem tc_row {e : Env} {S : State} {f : JFrame} {a : Addr} {x : ExceptionTableEntry} {cX : ClassId} {cell : Cell} (hx : covers x f.pc = true) (h0 : x.catchType ≠ 0) (hl : S.vm.ClassLinks e.platform f.method.cls x.catchType cX) (hcell : S.heap[a]? = some cell) (hobj : ∀ k, cell.vm ≠ .statics k) (hk : ∃ k, S.vm.classes[cell.cls]? = some k) (hc : ∃ k, S.vm.classes[cX]? = some k) (t : List ExceptionTableEntry) :
    ∀ Q E d acts, wp (findHandler.go f a (x :: t)) Q E e d acts S ↔ (if S.vm.assignable cell.cls cX = true then Q (.found x.handlerPc) d acts (S.setVm (S.vm.noted f.method.cls x.catchType (.cls cX))) else wp (findHandler.go f a t) Q E e d acts (S.setVm (S.vm.noted f.method.cls x.catchType (.cls cX)))) := by
  intro Q E d acts
  simp only [covers] at hx
  obtain ⟨g1, g2⟩ := (resolveClass_links e.toSetting hl).op (op := VmOp.resolveClass f.method.cls x.catchType) rfl
  have al : S.vm.Alike (S.vm.noted f.method.cls x.catchType (.cls cX)) := (Vm.Alike.refl S.vm).noted _ _ _
  obtain ⟨k1, hk1⟩ := hk
  obtain ⟨k2, hk2⟩ := hc
  obtain ⟨k3, hk3, -⟩ := al.2.2 _ _ hk1
  obtain ⟨k4, hk4, -⟩ := al.2.2 _ _ hk2
  have ea := al.assignable cell.cls cX
  cases hfit : S.vm.assignable cell.cls cX <;> rw [hfit] at ea <;> simp [findHandler.go, hx, h0, g1, g2, hcell, hobj, hk3, hk4, ea, VmOp.dirties, VmOp.acts]
/-- the rows ahead are passed, the row x takes it; the tables have warmed meanwhile -/
theorem tc_go {e : Env} {s0 : State} {f : JFrame} {a : Addr} {cell : Cell} {x : ExceptionTableEntry} {cX : ClassId} (hobj : ∀ k, cell.vm ≠ .statics k) (hk0 : ∃ k, s0.vm.classes[cell.cls]? = some k) (hx : covers x f.pc = true) (h0 : x.catchType ≠ 0) (hl : s0.vm.ClassLinks e.platform f.method.cls x.catchType cX) (hfit : s0.vm.assignable cell.cls cX = true) (suf : List ExceptionTableEntry) :
    ∀ (pre : List ExceptionTableEntry) (S : State), s0.WarmedH S.vm → S.heap[a]? = some cell → (∀ y ∈ pre, covers y f.pc = true ∧ y.catchType ≠ 0 ∧ ∃ c, s0.vm.ClassLinks e.platform f.method.cls y.catchType c ∧ s0.vm.assignable cell.cls c = false) →
      ∃ vm1, s0.WarmedH vm1 ∧ ∀ Q E d acts, wp (findHandler.go f a (pre ++ x :: suf)) Q E e d acts S ↔ Q (.found x.handlerPc) d acts (S.setVm vm1) := by
  obtain ⟨k0, hk0⟩ := hk0
  have one : ∀ (y : ExceptionTableEntry) (c : ClassId) (S : State), s0.vm.ClassLinks e.platform f.method.cls y.catchType c → s0.WarmedH S.vm → S.vm.ClassLinks e.platform f.method.cls y.catchType c ∧ (∃ k, S.vm.classes[cell.cls]? = some k) ∧ (∃ k, S.vm.classes[c]? = some k) ∧ S.vm.assignable cell.cls c = s0.vm.assignable cell.cls c ∧ s0.WarmedH (S.vm.noted f.method.cls y.catchType (.cls c)) := by
    intro y c S hl hW
    obtain ⟨dk, _, _, kt, hd, _, _, _, _, hkt, _, hopen⟩ := hl.here
    obtain ⟨k1, hk1, -⟩ := hW.alike.2.2 _ _ hk0
    obtain ⟨k2, hk2, -⟩ := hW.alike.2.2 _ _ hkt
    exact ⟨hW.classLinks hl, ⟨k1, hk1⟩, ⟨k2, hk2⟩, hW.alike.assignable _ _, hW.noted hd hopen (State.rightAt_cls hl)⟩
  intro pre
  induction pre with
  | nil =>
    intro S hW hcell _
    obtain ⟨a1, a2, a3, a4, a5⟩ := one x cX S hl hW
    exact ⟨_, a5, fun Q E d acts => by
      rw [List.nil_append, tc_row hx h0 a1 hcell hobj a2 a3, a4, hfit, if_pos rfl]⟩
  | cons y ys ih =>
    intro S hW hcell hp
    obtain ⟨y1, y2, c, y3, y4⟩ := hp y List.mem_cons_self
    obtain ⟨a1, a2, a3, a4, a5⟩ := one y c S y3 hW
    obtain ⟨vm1, hW1, hq⟩ := ih (S.setVm (S.vm.noted f.method.cls y.catchType (.cls c))) a5 hcell (fun z hz => hp z (List.mem_cons_of_mem _ hz))
    exact ⟨vm1, hW1, fun Q E d acts => by
      rw [List.cons_append, tc_row y1 y2 a1 hcell hobj a2 a3, a4, y4, if_neg (by decide)]
      exact hq Q E d acts⟩
theorem tc_steps {tb : Tables} {e : Env} {S target : State} {g : JFrame} {c : Code} {below : List Frame} {a : Addr} {pc : Nat} {vm1 : Vm} (h : At S g.method c below)
    (hfind : ∀ Q E d acts, wp (findHandler g a) Q E e d acts ((S.setTop g).pushFrame (.throwing a)) ↔ Q (.found pc) d acts (((S.setTop g).pushFrame (.throwing a)).setVm vm1))
    (hrest : Steps tb e below ((S.setVm vm1).setTop { g with pc := pc, stack := [.ref a] }) target) : Steps tb e below ((S.setTop g).pushFrame (.throwing a)) target := by
  have hstep : (stepThrowing e ((S.setTop g).pushFrame (.throwing a)) a (.java g :: S.frames.tail)).Is ((((S.setTop g).pushFrame (.throwing a)).setVm vm1).setFrames (.java { g with pc := pc, stack := [.ref a] } :: S.frames.tail)) [] := by
    simp only [stepThrowing, searchFrame, vmDo]
    generalize hr : Sem.go _ e false [] ((S.setTop g).pushFrame (.throwing a)) = res
    obtain ⟨as, rfl, ha⟩ := Sem.eq_ok_of hr (a := Handler.found pc) (s' := ((S.setTop g).pushFrame (.throwing a)).setVm vm1) (acts' := []) (by simp [hfind _ _ _ _])
    exact ⟨rfl, ha⟩
  obtain ⟨hgo, hw⟩ := h.throwing a
  refine Steps.head hgo hw ?_
  rw [stepThread_throwing (frames_entered h.top _), hstep.1]
  obtain ⟨g0, hg⟩ := Option.isSome_iff_exists.mp h.top
  obtain ⟨r, hr⟩ := State.topJava?_eq_some.mp hg
  have hr2 : (S.setVm vm1).frames = .java g0 :: r := hr
  rw [State.setTop_of_frames _ hr2] at hrest
  have e1 : ∀ (u : State) (F F2 : List Frame), ((u.setFrames F).setVm vm1).setFrames F2 = (u.setVm vm1).setFrames F2 := fun u F F2 => by
    have e2 : (u.setFrames F).setVm vm1 = (u.setVm vm1).setFrames F := rfl
    rw [e2, State.setFrames_setFrames]
  rw [hr, List.tail_cons, State.pushFrame, e1, State.setTop_of_frames _ hr, e1]
  exact hrest
def ncl : List String := ["java/lang/IllegalArgumentException", "java/lang/UnsupportedOperationException", "java/lang/ArrayIndexOutOfBoundsException", "java/lang/ArithmeticException"]
/-- the exceptions are apart -/
def zNc (U : State) : Prop := ∀ a ∈ ncl, ∀ b ∈ ncl, a ≠ b → va_Nc a b U
theorem zNc.moved {u U : State} (hvm : u.vm.Alike U.vm) (h : zNc u) : zNc U := fun a ha b hb hn => va_Nc.moved hvm (h a ha b hb hn)
section ZH
variable {p : Program} {l : Launch} {e : Env} {R : Room} {s : State} {m : MethodId} {args : Array Value} {below : List Frame} {meth : Method} {c : Code} {H : Heap} {locs : List Loc} {cells slots : Nat} {Q : State → Prop} {cc : ByteArray} {pc nL : Nat} {ls : Array Slot} {rest st0 : List Value} {G : zG} {A : Nat → Prop} {H0 : Heap}
theorem tc_catch {own name E : String} {ce : Cell} {q : Addr} (hown : s.vm.findClass own = some m.cls) (pre : List (ExceptionTableEntry × String)) (x : ExceptionTableEntry) (suf : List ExceptionTableEntry) (hsplit : c.exceptionTable.toList = pre.map (fun z => z.1) ++ x :: suf)
    (hpass : ∀ z ∈ pre, covers z.1 pc = true ∧ z.1.catchType ≠ 0 ∧ (Cond.classLink own z.1.catchType z.2).before args s = true ∧ va_Nc E z.2 s) (hx : covers x pc = true) (h0 : x.catchType ≠ 0) (hlink : (Cond.classLink own x.catchType name).before args s = true) (hcast : (Cond.castable E name).before args s = true) (hcell : H[q]? = some ce) (hv : ce.vm = .none) (hcl : s.vm.findClass E = some ce.cls)
    (kk : W p l e R s m args below meth c H locs cells slots Q (F0 m x.handlerPc ls [.ref q])) : vx_W p l e R s m args below meth c H locs cells slots Q (F0 m pc ls rest) q := by
  intro T hT X
  have hpl : e.platform.magicAccessors = ({} : Platform).magicAccessors := by rw [X.admits.platform]
  obtain ⟨c3, c4, hc3, hc4, hasg⟩ := Cond.castable_spec hcast
  cases Option.some.inj (hc3.symm.trans hcl)
  obtain ⟨c5, hc5, hcl5⟩ := Cond.classLink_spec hown hlink e.platform hpl
  cases Option.some.inj (hc4.symm.trans hc5)
  have hT2 : ((T.setTop (F0 m pc ls rest)).pushFrame (.throwing q)).heap[q]? = some ce := by
    rw [Stand.throwing_heap, hT]; exact hcell
  have hW2 : s.WarmedH ((T.setTop (F0 m pc ls rest)).pushFrame (.throwing q)).vm := by
    rw [Stand.throwing_vm]; exact X.warmed
  obtain ⟨vm1, hW1, hf⟩ := tc_go (e := e) (s0 := s) (f := F0 m pc ls rest) (a := q) (cell := ce) (x := x) (fun k h => by rw [hv] at h; cases h) (Vm.classAt_of_findClass hcl) hx h0 hcl5 hasg suf (pre.map (fun z => z.1)) _ hW2 hT2 (fun y hy => by
    obtain ⟨z, hz, rfl⟩ := List.mem_map.mp hy
    obtain ⟨z1, z2, z3, z4⟩ := hpass z hz
    obtain ⟨c6, hc6, hcl6⟩ := Cond.classLink_spec hown z3 e.platform hpl
    obtain ⟨a8, b8, e1, e2, e3⟩ := z4
    cases Option.some.inj (e1.symm.trans hcl)
    cases Option.some.inj (e2.symm.trans hc6)
    exact ⟨z1, z2, _, hcl6, e3⟩)
  obtain ⟨t, a1, b1⟩ := kk (T.setVm vm1) hT (X.noted hW1)
  refine ⟨t, tc_steps (g := F0 m pc ls rest) X.here (fun Q E d acts => ?_) a1, b1⟩
  rw [W.findHandler_eq (meth := meth) (code := c) (by rw [Stand.throwing_vm]; exact X.method') X.code, hsplit]
  exact hf Q E d acts
theorem z_hi {y : MethodName} {bytes : ByteArray} {maxL index n ci q0 b : Nat} {ret : Option FieldType} {own C : String} {rm : Room} {As : List Value} {fs : List Value} {r : vw_C} {S : Type} {v : S → Int} {ok : S → Prop} {ws2 : S → va_W} {ex : String → Prop} {wc : va_W} (hx : p.tables.exec = Jvm.exec) (hb : c.code = cc) (hml : c.maxLocals = nL) (hown : s.vm.findClass own = some m.cls) (hT : ∀ w ∈ TB, w.before args s = true) (hK : zK G s) (hX : zX A s s.heap)
    (hM : zXi l y bytes maxL ret rm G (.ref b :: As) wc v ok ws2 ex) (kc : kcV own index C y bytes maxL ret n) (hR : rm.frames + 1 ≤ R.frames ∧ 8 + (maxL + 11) + rm.locals ≤ R.locals) (hcell : cells + rm.cells ≤ R.cells ∧ slots + rm.slots ≤ R.slots) (hP : zP G wc s.heap) (hD : va_D (fun _ => True) wc) (hsub : ∀ q, va_A wc s.heap.size q → A q) (he : wc[q0]? = some (b, .inr (ci, fs))) (hc : vwCl[ci]? = some r) (hC' : r.1 = C) (hn : As.length = n) (hls : ls.size = nL) (hst : st0 = As.reverse ++ .ref b :: rest) (hrest : (rest.map fun v => v.category).sum ≤ 8) (hd : decode cc pc = .ok (.invokevirtual index, 3))
    (kx : ∀ (E : String) (ce : Cell) (q9 : Addr) (H1 : Heap) (locs1 : List Loc), ex E → (∀ q : Nat, q < s.heap.size → H1[q]? = s.heap[q]?) → va_S A s.heap H1 locs1 → H1[q9]? = some ce → ce.vm = .none → s.vm.findClass E = some ce.cls → vx_W p l e R s m args below meth c H1 locs1 (cells + rm.cells) (slots + rm.slots) Q (F0 m pc ls rest) q9)
    (k : ∀ (u : S) (H1 : Heap) (locs1 : List Loc), ok u → (∀ q : Nat, q < s.heap.size → ¬ va_A wc s.heap.size q → H1[q]? = s.heap[q]?) → zP G (ws2 u) H1 → va_D (va_A wc s.heap.size) (ws2 u) → va_S A s.heap H1 locs1 → W p l e R s m args below meth c H1 locs1 (cells + rm.cells) (slots + rm.slots) Q (F0 m (pc + 3) ls (.int (zI (v u)) :: rest))) : W p l e R s m args below meth c s.heap [] cells slots Q (F0 m pc ls st0) := by
  subst hC'
  have hG := kc_G kc
  obtain ⟨k1, k2, k3, k4, k5, k6, k7, k8, k9⟩ := kc
  refine vx_calli (vx_runV (As := As) (rest := rest) (g := F0 m pc ls st0) (H := s.heap) (locs := []) (cells := cells) (slots := slots) (below := below) (meth := meth) (e := e) ⟨hx, hb, hml, hown, hT⟩ (hM s.heap.size) (cwV (R := R) n hT hG rfl rfl rfl ⟨k6, k7, k8, k9⟩ hR) ⟨zPx_blind G _ _ _, va_recv hK hP hc he, fun U hU hW => ⟨rfl, by rw [hU], by rw [hU]; exact hP, va_K.moved hW.alike hK, hD, by rw [hU]; exact vx_Zq.moved hW.alike (hX.1.narrow hsub), by rw [hU]; exact vx_Zq.moved hW.alike (hX.2.1.narrow hsub), fun z hz => by obtain ⟨b9, hb9⟩ := hX.2.2.1 z hz; exact ⟨b9, vk_R.warm hW hb9⟩, zNg.warm hW hX.2.2.2⟩⟩ rfl hn hls hst (lv_room hrest) hd hcell) (A0 := A) (H0 := s.heap) va_S.rf (fun q _ h => hsub q h) hsub (fun q _ h => h.elim) (fun E ce q9 u t H1 locs1 ht hvm _ hE hz1 hk1 hS1 hce hcv hcl => kx E ce q9 H1 locs1 hE (fun q hq => hk1 q hq (fun f => f)) hS1 hce hcv hcl) (fun r u t H1 locs1 ht hvm hw hB hz1 hk1 hS1 => ?_)
  obtain ⟨hP1, hK1, hD1⟩ := hB
  rw [ht] at hP1
  rw [hw.1]
  exact k u H1 locs1 hw.2 hk1 hP1 hD1 hS1
theorem z_hl {y : MethodName} {bytes : ByteArray} {maxL index n ci q0 b : Nat} {ret : Option FieldType} {own C : String} {rm : Room} {As : List Value} {fs : List Value} {r : vw_C} {S : Type} {v : S → Int} {ok : S → Prop} {ws2 : S → va_W} {ex : String → Prop} {wc : va_W} (hx : p.tables.exec = Jvm.exec) (hb : c.code = cc) (hml : c.maxLocals = nL) (hown : s.vm.findClass own = some m.cls) (hT : ∀ w ∈ TB, w.before args s = true) (hK : zK G s) (hX : zX A s s.heap)
    (hM : zXl l y bytes maxL ret rm G (.ref b :: As) wc v ok ws2 ex) (kc : kcV own index C y bytes maxL ret n) (hR : rm.frames + 1 ≤ R.frames ∧ 8 + (maxL + 11) + rm.locals ≤ R.locals) (hcell : cells + rm.cells ≤ R.cells ∧ slots + rm.slots ≤ R.slots) (hP : zP G wc s.heap) (hD : va_D (fun _ => True) wc) (hsub : ∀ q, va_A wc s.heap.size q → A q) (he : wc[q0]? = some (b, .inr (ci, fs))) (hc : vwCl[ci]? = some r) (hC' : r.1 = C) (hn : As.length = n) (hls : ls.size = nL) (hst : st0 = As.reverse ++ .ref b :: rest) (hrest : (rest.map fun v => v.category).sum ≤ 8) (hd : decode cc pc = .ok (.invokevirtual index, 3))
    (kx : ∀ (E : String) (ce : Cell) (q9 : Addr) (H1 : Heap) (locs1 : List Loc), ex E → (∀ q : Nat, q < s.heap.size → H1[q]? = s.heap[q]?) → va_S A s.heap H1 locs1 → H1[q9]? = some ce → ce.vm = .none → s.vm.findClass E = some ce.cls → vx_W p l e R s m args below meth c H1 locs1 (cells + rm.cells) (slots + rm.slots) Q (F0 m pc ls rest) q9)
    (k : ∀ (u : S) (H1 : Heap) (locs1 : List Loc), ok u → (∀ q : Nat, q < s.heap.size → ¬ va_A wc s.heap.size q → H1[q]? = s.heap[q]?) → zP G (ws2 u) H1 → va_D (va_A wc s.heap.size) (ws2 u) → va_S A s.heap H1 locs1 → W p l e R s m args below meth c H1 locs1 (cells + rm.cells) (slots + rm.slots) Q (F0 m (pc + 3) ls (.long (zL (v u)) :: rest))) : W p l e R s m args below meth c s.heap [] cells slots Q (F0 m pc ls st0) := by
  subst hC'
  have hG := kc_G kc
  obtain ⟨k1, k2, k3, k4, k5, k6, k7, k8, k9⟩ := kc
  refine vx_calll (vx_runV (As := As) (rest := rest) (g := F0 m pc ls st0) (H := s.heap) (locs := []) (cells := cells) (slots := slots) (below := below) (meth := meth) (e := e) ⟨hx, hb, hml, hown, hT⟩ (hM s.heap.size) (cwV (R := R) n hT hG rfl rfl rfl ⟨k6, k7, k8, k9⟩ hR) ⟨zPx_blind G _ _ _, va_recv hK hP hc he, fun U hU hW => ⟨rfl, by rw [hU], by rw [hU]; exact hP, va_K.moved hW.alike hK, hD, by rw [hU]; exact vx_Zq.moved hW.alike (hX.1.narrow hsub), by rw [hU]; exact vx_Zq.moved hW.alike (hX.2.1.narrow hsub), fun z hz => by obtain ⟨b9, hb9⟩ := hX.2.2.1 z hz; exact ⟨b9, vk_R.warm hW hb9⟩, zNg.warm hW hX.2.2.2⟩⟩ rfl hn hls hst (lv_room hrest) hd hcell) (A0 := A) (H0 := s.heap) va_S.rf (fun q _ h => hsub q h) hsub (fun q _ h => h.elim) (fun E ce q9 u t H1 locs1 ht hvm _ hE hz1 hk1 hS1 hce hcv hcl => kx E ce q9 H1 locs1 hE (fun q hq => hk1 q hq (fun f => f)) hS1 hce hcv hcl) (fun r u t H1 locs1 ht hvm hw hB hz1 hk1 hS1 => ?_)
  obtain ⟨hP1, hK1, hD1⟩ := hB
  rw [ht] at hP1
  rw [hw.1]
  exact k u H1 locs1 hw.2 hk1 hP1 hD1 hS1

theorem z_hv {y : MethodName} {bytes : ByteArray} {maxL index n ci q0 b : Nat} {own C : String} {rm : Room} {As : List Value} {fs : List Value} {r : vw_C} {S : Type} {ok : S → Prop} {ws2 : S → va_W} {ex : String → Prop} {wc : va_W} (hx : p.tables.exec = Jvm.exec) (hb : c.code = cc) (hml : c.maxLocals = nL) (hown : s.vm.findClass own = some m.cls) (hT : ∀ w ∈ TB, w.before args s = true) (hK : zK G s) (hX : zX A s s.heap)
    (hM : zXv l y bytes maxL rm G (.ref b :: As) wc ok ws2 ex) (kc : kcV own index C y bytes maxL none n) (hR : rm.frames + 1 ≤ R.frames ∧ 8 + (maxL + 11) + rm.locals ≤ R.locals) (hcell : cells + rm.cells ≤ R.cells ∧ slots + rm.slots ≤ R.slots) (hP : zP G wc s.heap) (hD : va_D (fun _ => True) wc) (hsub : ∀ q, va_A wc s.heap.size q → A q) (he : wc[q0]? = some (b, .inr (ci, fs))) (hc : vwCl[ci]? = some r) (hC' : r.1 = C) (hn : As.length = n) (hls : ls.size = nL) (hst : st0 = As.reverse ++ .ref b :: rest) (hrest : (rest.map fun v => v.category).sum ≤ 8) (hd : decode cc pc = .ok (.invokevirtual index, 3))
    (kx : ∀ (E : String) (ce : Cell) (q9 : Addr) (H1 : Heap) (locs1 : List Loc), ex E → (∀ q : Nat, q < s.heap.size → H1[q]? = s.heap[q]?) → va_S A s.heap H1 locs1 → H1[q9]? = some ce → ce.vm = .none → s.vm.findClass E = some ce.cls → vx_W p l e R s m args below meth c H1 locs1 (cells + rm.cells) (slots + rm.slots) Q (F0 m pc ls rest) q9)
    (k : ∀ (u : S) (H1 : Heap) (locs1 : List Loc), ok u → (∀ q : Nat, q < s.heap.size → ¬ va_A wc s.heap.size q → H1[q]? = s.heap[q]?) → zP G (ws2 u) H1 → va_D (va_A wc s.heap.size) (ws2 u) → va_S A s.heap H1 locs1 → W p l e R s m args below meth c H1 locs1 (cells + rm.cells) (slots + rm.slots) Q (F0 m (pc + 3) ls rest)) : W p l e R s m args below meth c s.heap [] cells slots Q (F0 m pc ls st0) := by
  subst hC'
  have hG := kc_G kc
  obtain ⟨k1, k2, k3, k4, k5, k6, k7, k8, k9⟩ := kc
  refine vx_callv (vx_runV (As := As) (rest := rest) (g := F0 m pc ls st0) (H := s.heap) (locs := []) (cells := cells) (slots := slots) (below := below) (meth := meth) (e := e) ⟨hx, hb, hml, hown, hT⟩ (hM s.heap.size) (cwV (R := R) n hT hG rfl rfl rfl ⟨k6, k7, k8, k9⟩ hR) ⟨zPx_blind G _ _ _, va_recv hK hP hc he, fun U hU hW => ⟨rfl, by rw [hU], by rw [hU]; exact hP, va_K.moved hW.alike hK, hD, by rw [hU]; exact vx_Zq.moved hW.alike (hX.1.narrow hsub), by rw [hU]; exact vx_Zq.moved hW.alike (hX.2.1.narrow hsub), fun z hz => by obtain ⟨b9, hb9⟩ := hX.2.2.1 z hz; exact ⟨b9, vk_R.warm hW hb9⟩, zNg.warm hW hX.2.2.2⟩⟩ rfl hn hls hst (lv_room hrest) hd hcell) (A0 := A) (H0 := s.heap) va_S.rf (fun q _ h => hsub q h) hsub (fun q _ h => h.elim) (fun E ce q9 u t H1 locs1 ht hvm _ hE hz1 hk1 hS1 hce hcv hcl => kx E ce q9 H1 locs1 hE (fun q hq => hk1 q hq (fun f => f)) hS1 hce hcv hcl) (fun u t H1 locs1 ht hvm hw hB hz1 hk1 hS1 => ?_)
  obtain ⟨hP1, hK1, hD1⟩ := hB
  rw [ht] at hP1
  exact k u H1 locs1 hw hk1 hP1 hD1 hS1

end ZH
/-- the row of one long -/
def zLA (v : Int) : Nat → Int64 := fun j => if j = 0 then zL v else 0
abbrev ol (G : zG) (a : Nat) (v : Int) : Nat × va_E := (a, .inl (G.2.2.2, 1, .inr (.inl (zLA v))))
section ZK
variable {p : Program} {l : Launch} {e : Env} {R : Room} {s : State} {m : MethodId} {args : Array Value} {below : List Frame} {meth : Method} {c : Code} {H : Heap} {locs : List Loc} {cells slots : Nat} {Q : State → Prop} {cc : ByteArray} {pc nL : Nat} {ls : Array Slot} {rest st0 : List Value} {G : zG} {A : Nat → Prop} {H0 : Heap} {ws : va_W}
theorem zI_0in : vp_in (zI 0) 1 := zI_in (i := 0) (n := 1) (by decide) (by decide)
theorem z_last (hx : p.tables.exec = Jvm.exec) (hb : c.code = cc) (hK : zK G s) (hP : zP G ws H) (hD : va_D A ws) (hS : va_S A H0 H locs) (q0 : Nat) {a : Nat} {v w : Int} (he : ws[q0]? = some (ol G a v)) (hd : decode cc pc = .ok (.lastore, 1)) {ws' : va_W} (hw : ws.set q0 (ol G a w) = ws')
    (k : ∀ (H : Heap) (locs : List Loc), zP G ws' H → va_D A ws' → va_S A H0 H locs → W p l e R s m args below meth c H locs cells slots Q (F0 m (pc + 1) ls rest)) : W p l e R s m args below meth c H locs cells slots Q (F0 m pc ls (.long (zL w) :: .int (zI 0) :: .ref a :: rest)) := by
  have e1 : vp_updL (zLA v) (zI 0).toNatClampNeg (zL w) = zLA w := by
    funext j
    by_cases q : j = 0
    · subst q; rfl
    · have h1 : (zI 0).toNatClampNeg = 0 := rfl
      unfold vp_updL zLA
      rw [h1, if_neg q, if_neg q, if_neg q]
  refine va_last hx hb hK hP hD hS q0 2 he rfl zI_0in hd (fun H1 l1 p1 d1 s1 => k H1 l1 ?_ ?_ s1)
  · rw [e1] at p1; rw [← hw]; exact p1
  · rw [e1] at d1; rw [← hw]; exact d1
end ZK
abbrev zPh (G : zG) (av : List Value) (ws : va_W) (sz : Nat) : Array Value → State → Prop := va_Pc av (fun U => U.heap.size = sz ∧ zP G ws U.heap ∧ zK G U ∧ va_D (fun _ => True) ws ∧ zX (va_A ws sz) U U.heap ∧ zNc U)
theorem zPh_blind (G : zG) (av : List Value) (ws : va_W) (sz : Nat) : FrameBlind (zPh G av ws sz) := fun a U g mk q => by
  obtain ⟨q0, q1, qP, qK, qD, ⟨qU, qN, qS, qG⟩, qC⟩ := q
  exact ⟨q0, q1, qP, va_K.moved (u := U) (U := U.calling g mk a) (Vm.Alike.refl U.vm) qK, qD, ⟨vx_Zq.moved (u := U) (U := U.calling g mk a) (Vm.Alike.refl U.vm) qU, vx_Zq.moved (u := U) (U := U.calling g mk a) (Vm.Alike.refl U.vm) qN, fun z hz => by
    obtain ⟨b, hb⟩ := qS z hz
    exact ⟨b, vk_R.same (u := U) rfl hb⟩, fun w hw => va_Nw.same (ng_on w hw) (u := U) rfl (qG w hw)⟩, zNc.moved (u := U) (U := U.calling g mk a) (Vm.Alike.refl U.vm) qC⟩
abbrev zWh (l : Launch) (y : MethodName) (bytes : ByteArray) (maxL : Nat) (ret : Option FieldType) (hh : List (Nat × Nat × Nat × Nat)) (rm : Room) (G : zG) (av : List Value) (ws : va_W) {S : Type} (v : S → Int) (ok : S → Prop) (ws2 : S → va_W) : Prop :=
  ∀ sz : Nat, Met l y (Cond.codeWith y bytes maxL ret hh :: TB) rm (zPh G av ws sz) (va_Qi (fun r u => r = zI (v u) ∧ ok u) (zB G (va_A ws sz) ws2) (va_A ws sz)) rm.cells rm.slots (va_A ws sz)
