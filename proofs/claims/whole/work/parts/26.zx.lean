/-! ===== methods that throw: nothing that was there before has changed then ===== -/
def strs : List (Nat × String) := [(50, "a mix is of bytes"), (66, "there are 8 inks"), (73, "a colour has a byte of an ink, or -1"), (187, "there is no such ink"), (93, "a limit is 0 to 2040"), (98, "a way is 0 to 3"), (189, "there is no such point"), (116, "there is no such band"), (122, "a trap's width is 0 to 3"), (127, "a curve's point is of bytes"), (132, "the curve has 12 points"), (137, "a cell is of 0 to 12 and -12 to 12"), (141, "a cell of no size"), (144, "there are 6 cells"), (191, "there is no such cell"), (154, "there is no such point of the cell"), (159, "a point is -1000000 to 1000000 away"), (180, "there is no such packed byte")]
def zStr (U : State) : Prop := ∀ q ∈ strs, ∃ a : Nat, vk_R RX4 q.1 q.2 a U
/-- the words of a throw that aren't among TB's: castable, declares -/
def ngC : List String := ["java/lang/IllegalArgumentException", "java/lang/UnsupportedOperationException", "java/lang/ArrayIndexOutOfBoundsException", "java/lang/ArithmeticException"]
def ngD : List String := ["java/lang/RuntimeException", "java/lang/Exception", "java/lang/Throwable", "java/lang/IndexOutOfBoundsException"]
def ngs : List Cond := ngC.map (fun c => Cond.castable c c) ++ ngD.map (fun c => Cond.declares (Bundle.initS c))
def zNg (U : State) : Prop := ∀ w ∈ ngs, va_Nw w U
theorem ng_on : ∀ w ∈ ngs, w.onTables = true := by decide +kernel
theorem zNg.warm {s U : State} (hW : s.WarmedH U.vm) (h : zNg s) : zNg U := by
  intro w hw
  have h1 := h w hw
  rcases List.mem_append.mp hw with q | q
  · obtain ⟨c, -, rfl⟩ := List.mem_map.mp q
    exact va_Nw.warmC hW h1
  · obtain ⟨c, -, rfl⟩ := List.mem_map.mp q
    exact va_tabs rfl (rfl : (s.setVm U.vm).vm = U.vm) (by rw [Cond.declares_setVm hW.alike]; exact h1)
abbrev zX (A : Nat → Prop) (U : State) (H : Heap) : Prop := vx_Zq Bundle.tN "UNASSIGNED_STACK" Bundle.steD A U H ∧ vx_Zq Bundle.tN "SUPPRESSED_SENTINEL" Bundle.listD A U H ∧ zStr U ∧ zNg U
abbrev zPx (G : zG) (av : List Value) (ws : va_W) (sz : Nat) : Array Value → State → Prop := va_Pc av (fun U => U.heap.size = sz ∧ zP G ws U.heap ∧ zK G U ∧ va_D (fun _ => True) ws ∧ zX (va_A ws sz) U U.heap)
theorem zPx_blind (G : zG) (av : List Value) (ws : va_W) (sz : Nat) : FrameBlind (zPx G av ws sz) := fun a U g mk q => by
  obtain ⟨q0, q1, qP, qK, qD, qU, qN, qS, qG⟩ := q
  exact ⟨q0, q1, qP, va_K.moved (u := U) (U := U.calling g mk a) (Vm.Alike.refl U.vm) qK, qD, vx_Zq.moved (u := U) (U := U.calling g mk a) (Vm.Alike.refl U.vm) qU, vx_Zq.moved (u := U) (U := U.calling g mk a) (Vm.Alike.refl U.vm) qN, fun z hz => by
    obtain ⟨b, hb⟩ := qS z hz
    exact ⟨b, vk_R.same (u := U) rfl hb⟩, fun w hw => va_Nw.same (ng_on w hw) (u := U) rfl (qG w hw)⟩
/-- what a throw leaves: the exception's class is one of those, nothing old has changed -/
abbrev zEx (ex : String → Prop) : String → State → State → Prop := vx_X (fun _ : Unit => True) (fun E _ _ => ex E) (fun _ => False)
abbrev zXi (l : Launch) (y : MethodName) (bytes : ByteArray) (maxL : Nat) (ret : Option FieldType) (rm : Room) (G : zG) (av : List Value) (ws : va_W) {S : Type} (v : S → Int) (ok : S → Prop) (ws2 : S → va_W) (ex : String → Prop) : Prop :=
  ∀ sz : Nat, vx_Met l y (Cond.code y bytes maxL ret :: TB) rm (zPx G av ws sz) (va_Qi (fun r u => r = zI (v u) ∧ ok u) (zB G (va_A ws sz) ws2) (va_A ws sz)) (zEx ex) rm.cells rm.slots (va_A ws sz)
abbrev zXl (l : Launch) (y : MethodName) (bytes : ByteArray) (maxL : Nat) (ret : Option FieldType) (rm : Room) (G : zG) (av : List Value) (ws : va_W) {S : Type} (v : S → Int) (ok : S → Prop) (ws2 : S → va_W) (ex : String → Prop) : Prop :=
  ∀ sz : Nat, vx_Met l y (Cond.code y bytes maxL ret :: TB) rm (zPx G av ws sz) (va_Ql (fun r u => r = zL (v u) ∧ ok u) (zB G (va_A ws sz) ws2) (va_A ws sz)) (zEx ex) rm.cells rm.slots (va_A ws sz)
abbrev zXv (l : Launch) (y : MethodName) (bytes : ByteArray) (maxL : Nat) (rm : Room) (G : zG) (av : List Value) (ws : va_W) {S : Type} (ok : S → Prop) (ws2 : S → va_W) (ex : String → Prop) : Prop :=
  ∀ sz : Nat, vx_Met l y (Cond.code y bytes maxL none :: TB) rm (zPx G av ws sz) (va_Qv (fun u => ok u) (zB G (va_A ws sz) ws2) (va_A ws sz)) (zEx ex) rm.cells rm.slots (va_A ws sz)
/-- a test that returns nothing, or throws: the heap stays where it returns -/
abbrev zXt (l : Launch) (y : MethodName) (bytes : ByteArray) (maxL : Nat) (rm : Room) (G : zG) (av : List Value) (ws : va_W) (ok : Prop) (ex : String → Prop) : Prop :=
  ∀ sz : Nat, vx_Met l y (Cond.code y bytes maxL none :: TB) rm (zPx G av ws sz) (va_Sv (fun _ => ok)) (zEx ex) rm.cells rm.slots (fun _ => False)
def kcT (ik ic : Nat) (cls : String) (names : List String) : Prop := Cond.classLink RX4 ik cls ∈ TB ∧ Cond.initialized cls ∈ TB ∧ (∀ w ∈ vx_atS RX4 ic cls names, w ∈ TB ∨ w ∈ ngs) ∧ Bundle.fit cls = true ∧ ∀ n ∈ names, Bundle.fit n = true

theorem kt_IAE : kcT 48 52 "java/lang/IllegalArgumentException" ["java/lang/RuntimeException", "java/lang/Exception"] := ⟨mT 185 (by decide +kernel) rfl, mT 38 (by decide +kernel) rfl, by decide +kernel, by decide +kernel, by decide +kernel⟩
theorem kt_UOE : kcT 64 68 "java/lang/UnsupportedOperationException" ["java/lang/RuntimeException", "java/lang/Exception"] := ⟨mT 254 (by decide +kernel) rfl, mT 39 (by decide +kernel) rfl, by decide +kernel, by decide +kernel, by decide +kernel⟩
theorem kt_AIO : kcT 114 118 "java/lang/ArrayIndexOutOfBoundsException" ["java/lang/IndexOutOfBoundsException", "java/lang/RuntimeException", "java/lang/Exception"] := ⟨mT 287 (by decide +kernel) rfl, mT 41 (by decide +kernel) rfl, by decide +kernel, by decide +kernel, by decide +kernel⟩
theorem kt_ARI : kcT 139 143 "java/lang/ArithmeticException" ["java/lang/RuntimeException", "java/lang/Exception"] := ⟨mT 416 (by decide +kernel) rfl, mT 42 (by decide +kernel) rfl, by decide +kernel, by decide +kernel, by decide +kernel⟩
section ZT
variable {p : Program} {l : Launch} {e : Env} {R : Room} {s : State} {m : MethodId} {args : Array Value} {below : List Frame} {meth : Method} {c : Code} {H : Heap} {locs : List Loc} {cells slots : Nat} {Q : State → Prop} {cc : ByteArray} {pc nL : Nat} {ls : Array Slot} {rest st0 : List Value} {G : zG} {A : Nat → Prop}
theorem z_throw {Qc : Array Value → State → Outcome → State → Prop} {ex : String → Prop} {free : Addr → Prop} {cls text : String} {names : List String} {ik is ic mc ms : Nat} (hx : p.tables.exec = Jvm.exec) (hb : c.code = cc) (hst : l.stackTraces = false) (hown : s.vm.findClass RX4 = some m.cls) (hT : ∀ w ∈ TB, w.before args s = true) (hX : zX A s s.heap) (kt : kcT ik ic cls names) (hs1 : (is, text) ∈ strs) (hml : c.maxLocals = nL) (hsize : ls.size = nL) (htab : ∀ x ∈ c.exceptionTable.toList, False) (hlocks : meth.locks = false)
    (d0 : decode cc pc = .ok (.new ik, 3)) (d3 : decode cc (pc + 3) = .ok (.dup, 1)) (d4 : decode cc (pc + 4) = .ok (.ldc is, 2)) (d6 : decode cc (pc + 6) = .ok (.invokespecial ic, 3)) (d9 : decode cc (pc + 9) = .ok (.athrow, 1))
    (hRf : names.length + 3 < R.frames) (hRl : (rest.map fun v => v.category).sum + (13 * (names.length + 1) + 43) ≤ R.locals) (hRc : cells + 1 ≤ R.cells ∧ slots + 6 ≤ R.slots) (hc : cells + 1 ≤ mc) (hs : slots + 6 ≤ ms) (hex : ex cls) :
    W p l e R s m args below meth c s.heap [] cells slots (vx_MQ below Qc (zEx ex) args s mc ms free) (F0 m pc ls rest) := by
  obtain ⟨t1, t2, t3, t4, t5⟩ := kt
  obtain ⟨sa, hsa⟩ := hX.2.2.1 _ hs1
  have good : ∀ w ∈ TB, vx_ot w = true := fun w hw => by
    have := (List.mem_filter.mp hw).2
    unfold vx_ot; rw [this]; simp
  refine vx_throwS (A := A) hx hb hst hown t4 t5 (hT _ t1) (hT _ t2) hsa (fun w hw => (t3 w hw).elim (hT w) (fun q => va_Nw.use (ng_on w q) (hX.2.2.2 w q))) (fun w hw => ?_) hX.1 hX.2.1 va_S.rf (hsize.trans hml.symm) d0 d3 d4 d6 d9 (fun x h9 => (htab x h9).elim) hRf hRl hRc.1 hRc.2 hlocks (fun t hvm h1 h2 => ⟨(), trivial, hex, h1, fun q hq _ => h2 q hq⟩) (fun z hz => nomatch hz) hc hs
  rcases List.mem_cons.mp hw with h | h
  · rw [h]; exact good _ t1
  · rcases List.mem_cons.mp h with h | h
    · rw [h]; exact good _ t2
    · exact (t3 w h).elim (good w) (fun q => by unfold vx_ot; rw [ng_on w q]; rfl)
/-- a throw out of a callee, past this method -/
theorem z_tret {ok : Prop} {ex : String → Prop} {mc ms : Nat} (hx : p.tables.exec = Jvm.exec) (hb : c.code = cc) (hr : meth.sig.returnType = none) (hlocks : meth.locks = false) (hok : ok) (hd : decode cc pc = .ok (.return_, 1)) (hc : cells ≤ mc) (hs : slots ≤ ms) : W p l e R s m args below meth c s.heap [] cells slots (vx_MQ below (va_Sv (fun _ => ok)) (zEx ex) args s mc ms (fun _ => False)) (F0 m pc ls []) :=
  vx_ret (W.widen hc hs (W.vret hx hb hr (fun t ht _ => ⟨rfl, hok, ht⟩) (fun q h => nomatch h) hd hlocks))
theorem z_past {Qc : Array Value → State → Outcome → State → Prop} {ex ex' : String → Prop} {free : Addr → Prop} {mc ms : Nat} {H1 : Heap} {locs1 : List Loc} {E : String} {ce : Cell} {q9 : Addr} (hex : ∀ E, ex' E → ex E) (hE : ex' E) (htab : ∀ x ∈ c.exceptionTable.toList, False) (hlocks : meth.locks = false) (hz : s.heap.size ≤ H1.size) (hk : ∀ q : Nat, q < s.heap.size → H1[q]? = s.heap[q]?) (hl1 : ∀ z ∈ locs1, free z.base) (hce : H1[q9]? = some ce) (hcv : ce.vm = .none) (hcl : s.vm.findClass E = some ce.cls) (hc : cells ≤ mc) (hs : slots ≤ ms) : vx_W p l e R s m args below meth c H1 locs1 cells slots (vx_MQ below Qc (zEx ex) args s mc ms free) (F0 m pc ls rest) q9 :=
  vx_out (fun x h9 => (htab x h9).elim) hlocks hce hcv hcl (fun t ht hvm => ⟨(), trivial, hex E hE, by rw [ht]; exact hz, fun q hq _ => by rw [ht]; exact hk q hq⟩) hl1 hc hs
theorem z_xt {Qc : Array Value → State → Outcome → State → Prop} {ex ex' : String → Prop} {free : Addr → Prop} {mc ms : Nat} {y : MethodName} {bytes : ByteArray} {maxL index n ci q0 b : Nat} {own C : String} {rm : Room} {As : List Value} {fs : List Value} {r : vw_C} {ok : Prop} {wc : va_W} (hx : p.tables.exec = Jvm.exec) (hb : c.code = cc) (hml : c.maxLocals = nL) (hown : s.vm.findClass own = some m.cls) (hT : ∀ w ∈ TB, w.before args s = true) (hK : zK G s) (htab : ∀ x ∈ c.exceptionTable.toList, False) (hlocks : meth.locks = false) (hX : zX A s s.heap)
    (hM : zXt l y bytes maxL rm G (.ref b :: As) wc ok ex') (kc : kcV own index C y bytes maxL none n) (hR : rm.frames + 1 ≤ R.frames ∧ 8 + (maxL + 11) + rm.locals ≤ R.locals) (hcell : cells + rm.cells ≤ R.cells ∧ slots + rm.slots ≤ R.slots) (hcm : cells + rm.cells ≤ mc ∧ slots + rm.slots ≤ ms) (hP : zP G wc s.heap) (hD : va_D (fun _ => True) wc) (hsub : ∀ q, va_A wc s.heap.size q → A q) (he : wc[q0]? = some (b, .inr (ci, fs))) (hc : vwCl[ci]? = some r) (hC' : r.1 = C) (hn : As.length = n) (hls : ls.size = nL) (hst : st0 = As.reverse ++ .ref b :: rest) (hrest : (rest.map fun v => v.category).sum ≤ 8) (hd : decode cc pc = .ok (.invokevirtual index, 3)) (hex : ∀ E, ex' E → ex E)
    (k : ok → W p l e R s m args below meth c s.heap [] (cells + rm.cells) (slots + rm.slots) (vx_MQ below Qc (zEx ex) args s mc ms free) (F0 m (pc + 3) ls rest)) : W p l e R s m args below meth c s.heap [] cells slots (vx_MQ below Qc (zEx ex) args s mc ms free) (F0 m pc ls st0) := by
  subst hC'
  have hG := kc_G kc
  obtain ⟨k1, k2, k3, k4, k5, k6, k7, k8, k9⟩ := kc
  have hrun := vx_runV (As := As) (rest := rest) (g := F0 m pc ls st0) (H := s.heap) (locs := []) (cells := cells) (slots := slots) (below := below) (meth := meth) (e := e) ⟨hx, hb, hml, hown, hT⟩ (hM s.heap.size) (cwV (R := R) n hT hG rfl rfl rfl ⟨k6, k7, k8, k9⟩ hR) ⟨zPx_blind G _ _ _, va_recv hK hP hc he, fun U hU hW => ⟨rfl, by rw [hU], by rw [hU]; exact hP, va_K.moved hW.alike hK, hD, by rw [hU]; exact vx_Zq.moved hW.alike (hX.1.narrow hsub), by rw [hU]; exact vx_Zq.moved hW.alike (hX.2.1.narrow hsub), fun z hz => by obtain ⟨b9, hb9⟩ := hX.2.2.1 z hz; exact ⟨b9, vk_R.warm hW hb9⟩, zNg.warm hW hX.2.2.2⟩⟩ rfl hn hls hst (lv_room hrest) hd hcell
  intro T hT9 X
  rcases hrun T hT9 X with ⟨v, st₀, t, T', L, h0, X', hL, e1, e2, ⟨ho, hok, hh⟩, st⟩ | ⟨q, st₀, t, T', L, E, ce, h0, X', hL, e1, e2, ⟨u, -, hE, hF⟩, hce, hcv, hcl, st⟩
  · cases ho
    obtain ⟨t2, a1, b1⟩ := k hok T' (by rw [e1, hh, h0]) (Stand.forget X' (fun q h => (hL q h).elim))
    exact ⟨t2, st t2 a1, b1⟩
  · have hpast : vx_W p l e R s m args below meth c T'.heap [] (cells + rm.cells) (slots + rm.slots) (vx_MQ below Qc (zEx ex) args s mc ms free) (F0 m pc ls rest) q := z_past hex hE htab hlocks (by rw [e1, ← h0]; exact hF.1) (fun z hz => by rw [e1, ← h0] at *; exact hF.2 z (by rw [h0]; exact hz) (fun f => f)) (fun z hz => nomatch hz) (by rw [e1]; exact hce) hcv hcl hcm.1 hcm.2
    obtain ⟨t2, a1, b1⟩ := hpast T' rfl (Stand.forget X' (fun q h => (hL q h).elim))
    exact ⟨t2, st.trans a1, b1⟩
end ZT