section
-- ===== PART A: goes FIRST, ahead of the names: the tables' words, and 'selects' of the private methods out of them =====
/-- a private method of a class that the tables say can be made, by its rows of tables_1 -/
def lw_okq (q : MethodName × Nat) : Prop := (q.1.cls ≠ "java/lang/invoke/MethodHandle" ∧ q.1.cls ≠ "java/lang/invoke/VarHandle") ∧ Cond.instantiable q.1.cls q.2 ∈ tables_1 ∧ Cond.privateMethod q.1 ∈ tables_1 ∧ Cond.instanceMethod q.1 ∈ tables_1
theorem lw_p0 : lw_okq (⟨"SeparateScreens$Page", "sumAt", "(I)I"⟩, 7) := ⟨⟨by decide +kernel, by decide +kernel⟩, List.mem_of_getElem? (i := 31) (by decide +kernel), List.mem_of_getElem? (i := 125) (by decide +kernel), List.mem_of_getElem? (i := 126) (by decide +kernel)⟩
theorem lw_p1 : lw_okq (⟨"SeparateScreens$Page", "moveToBlack", "(II)V"⟩, 7) := ⟨⟨by decide +kernel, by decide +kernel⟩, List.mem_of_getElem? (i := 31) (by decide +kernel), List.mem_of_getElem? (i := 133) (by decide +kernel), List.mem_of_getElem? (i := 134) (by decide +kernel)⟩
theorem lw_p2 : lw_okq (⟨"SeparateScreens$Page", "shrinkToLimit", "(I)V"⟩, 7) := ⟨⟨by decide +kernel, by decide +kernel⟩, List.mem_of_getElem? (i := 31) (by decide +kernel), List.mem_of_getElem? (i := 138) (by decide +kernel), List.mem_of_getElem? (i := 139) (by decide +kernel)⟩
theorem lw_p3 : lw_okq (⟨"java/lang/Throwable", "fillInStackTrace", "(I)Ljava/lang/Throwable;"⟩, 6) := ⟨⟨by decide +kernel, by decide +kernel⟩, List.mem_of_getElem? (i := 197) (by decide +kernel), List.mem_of_getElem? (i := 195) (by decide +kernel), List.mem_of_getElem? (i := 196) (by decide +kernel)⟩
theorem lw_p4 : lw_okq (⟨"SeparateScreens", "checkInk", "(I)V"⟩, 4) := ⟨⟨by decide +kernel, by decide +kernel⟩, List.mem_of_getElem? (i := 17) (by decide +kernel), List.mem_of_getElem? (i := 256) (by decide +kernel), List.mem_of_getElem? (i := 257) (by decide +kernel)⟩
theorem lw_p5 : lw_okq (⟨"SeparateScreens", "checkPoint", "(II)V"⟩, 4) := ⟨⟨by decide +kernel, by decide +kernel⟩, List.mem_of_getElem? (i := 17) (by decide +kernel), List.mem_of_getElem? (i := 297) (by decide +kernel), List.mem_of_getElem? (i := 298) (by decide +kernel)⟩
theorem lw_p6 : lw_okq (⟨"SeparateScreens$Page", "lightness", "(I)I"⟩, 7) := ⟨⟨by decide +kernel, by decide +kernel⟩, List.mem_of_getElem? (i := 31) (by decide +kernel), List.mem_of_getElem? (i := 306) (by decide +kernel), List.mem_of_getElem? (i := 307) (by decide +kernel)⟩
theorem lw_p7 : lw_okq (⟨"SeparateScreens$Page", "unlike", "(II)Z"⟩, 7) := ⟨⟨by decide +kernel, by decide +kernel⟩, List.mem_of_getElem? (i := 31) (by decide +kernel), List.mem_of_getElem? (i := 325) (by decide +kernel), List.mem_of_getElem? (i := 326) (by decide +kernel)⟩
theorem lw_p8 : lw_okq (⟨"SeparateScreens$Curve", "firstFrom", "(I)I"⟩, 3) := ⟨⟨by decide +kernel, by decide +kernel⟩, List.mem_of_getElem? (i := 86) (by decide +kernel), List.mem_of_getElem? (i := 334) (by decide +kernel), List.mem_of_getElem? (i := 335) (by decide +kernel)⟩
theorem lw_p9 : lw_okq (⟨"SeparateScreens$Cell", "leastSizes", "()[I"⟩, 4) := ⟨⟨by decide +kernel, by decide +kernel⟩, List.mem_of_getElem? (i := 405) (by decide +kernel), List.mem_of_getElem? (i := 421) (by decide +kernel), List.mem_of_getElem? (i := 422) (by decide +kernel)⟩
theorem lw_p10 : lw_okq (⟨"SeparateScreens$Cell", "rankBySize", "([I)V"⟩, 4) := ⟨⟨by decide +kernel, by decide +kernel⟩, List.mem_of_getElem? (i := 405) (by decide +kernel), List.mem_of_getElem? (i := 433) (by decide +kernel), List.mem_of_getElem? (i := 434) (by decide +kernel)⟩
theorem lw_p11 : lw_okq (⟨"SeparateScreens", "checkedCell", "(I)LSeparateScreens$Cell;"⟩, 4) := ⟨⟨by decide +kernel, by decide +kernel⟩, List.mem_of_getElem? (i := 17) (by decide +kernel), List.mem_of_getElem? (i := 458) (by decide +kernel), List.mem_of_getElem? (i := 459) (by decide +kernel)⟩
theorem lw_p12 : lw_okq (⟨"SeparateScreens$Page", "startsRun", "(II)Z"⟩, 7) := ⟨⟨by decide +kernel, by decide +kernel⟩, List.mem_of_getElem? (i := 31) (by decide +kernel), List.mem_of_getElem? (i := 508) (by decide +kernel), List.mem_of_getElem? (i := 509) (by decide +kernel)⟩
theorem lw_p13 : lw_okq (⟨"SeparateScreensModel", "isInk", "(I)Z"⟩, 19) := ⟨⟨by decide +kernel, by decide +kernel⟩, List.mem_of_getElem? (i := 521) (by decide +kernel), List.mem_of_getElem? (i := 600) (by decide +kernel), List.mem_of_getElem? (i := 601) (by decide +kernel)⟩
theorem lw_p14 : lw_okq (⟨"SeparateScreensModel", "bind", "(I)V"⟩, 19) := ⟨⟨by decide +kernel, by decide +kernel⟩, List.mem_of_getElem? (i := 521) (by decide +kernel), List.mem_of_getElem? (i := 608) (by decide +kernel), List.mem_of_getElem? (i := 609) (by decide +kernel)⟩
theorem lw_p15 : lw_okq (⟨"SeparateScreensModel", "sumAt", "(I)I"⟩, 19) := ⟨⟨by decide +kernel, by decide +kernel⟩, List.mem_of_getElem? (i := 521) (by decide +kernel), List.mem_of_getElem? (i := 612) (by decide +kernel), List.mem_of_getElem? (i := 613) (by decide +kernel)⟩
def lw_privs_1 : List (MethodName × Nat) := [(⟨"SeparateScreens$Page", "sumAt", "(I)I"⟩, 7), (⟨"SeparateScreens$Page", "moveToBlack", "(II)V"⟩, 7), (⟨"SeparateScreens$Page", "shrinkToLimit", "(I)V"⟩, 7), (⟨"java/lang/Throwable", "fillInStackTrace", "(I)Ljava/lang/Throwable;"⟩, 6), (⟨"SeparateScreens", "checkInk", "(I)V"⟩, 4), (⟨"SeparateScreens", "checkPoint", "(II)V"⟩, 4), (⟨"SeparateScreens$Page", "lightness", "(I)I"⟩, 7), (⟨"SeparateScreens$Page", "unlike", "(II)Z"⟩, 7), (⟨"SeparateScreens$Curve", "firstFrom", "(I)I"⟩, 3), (⟨"SeparateScreens$Cell", "leastSizes", "()[I"⟩, 4), (⟨"SeparateScreens$Cell", "rankBySize", "([I)V"⟩, 4), (⟨"SeparateScreens", "checkedCell", "(I)LSeparateScreens$Cell;"⟩, 4), (⟨"SeparateScreens$Page", "startsRun", "(II)Z"⟩, 7), (⟨"SeparateScreensModel", "isInk", "(I)Z"⟩, 19), (⟨"SeparateScreensModel", "bind", "(I)V"⟩, 19), (⟨"SeparateScreensModel", "sumAt", "(I)I"⟩, 19)]
theorem lw_r1 : ∀ q ∈ lw_privs_1, lw_okq q := List.forall_mem_cons.mpr ⟨lw_p0, List.forall_mem_cons.mpr ⟨lw_p1, List.forall_mem_cons.mpr ⟨lw_p2, List.forall_mem_cons.mpr ⟨lw_p3, List.forall_mem_cons.mpr ⟨lw_p4, List.forall_mem_cons.mpr ⟨lw_p5, List.forall_mem_cons.mpr ⟨lw_p6, List.forall_mem_cons.mpr ⟨lw_p7, List.forall_mem_cons.mpr ⟨lw_p8, List.forall_mem_cons.mpr ⟨lw_p9, List.forall_mem_cons.mpr ⟨lw_p10, List.forall_mem_cons.mpr ⟨lw_p11, List.forall_mem_cons.mpr ⟨lw_p12, List.forall_mem_cons.mpr ⟨lw_p13, List.forall_mem_cons.mpr ⟨lw_p14, List.forall_mem_cons.mpr ⟨lw_p15, fun _ h => absurd h List.not_mem_nil⟩⟩⟩⟩⟩⟩⟩⟩⟩⟩⟩⟩⟩⟩⟩⟩
theorem lw_p16 : lw_okq (⟨"SeparateScreensModel", "isPoint", "(II)Z"⟩, 19) := ⟨⟨by decide +kernel, by decide +kernel⟩, List.mem_of_getElem? (i := 521) (by decide +kernel), List.mem_of_getElem? (i := 630) (by decide +kernel), List.mem_of_getElem? (i := 631) (by decide +kernel)⟩
theorem lw_p17 : lw_okq (⟨"SeparateScreensModel", "lenderOf", "(II)I"⟩, 19) := ⟨⟨by decide +kernel, by decide +kernel⟩, List.mem_of_getElem? (i := 521) (by decide +kernel), List.mem_of_getElem? (i := 634) (by decide +kernel), List.mem_of_getElem? (i := 635) (by decide +kernel)⟩
theorem lw_p18 : lw_okq (⟨"SeparateScreensModel", "lightness", "(II)I"⟩, 19) := ⟨⟨by decide +kernel, by decide +kernel⟩, List.mem_of_getElem? (i := 521) (by decide +kernel), List.mem_of_getElem? (i := 638) (by decide +kernel), List.mem_of_getElem? (i := 639) (by decide +kernel)⟩
theorem lw_p19 : lw_okq (⟨"SeparateScreensModel", "bandOf", "(IIII)I"⟩, 19) := ⟨⟨by decide +kernel, by decide +kernel⟩, List.mem_of_getElem? (i := 521) (by decide +kernel), List.mem_of_getElem? (i := 642) (by decide +kernel), List.mem_of_getElem? (i := 643) (by decide +kernel)⟩
theorem lw_p20 : lw_okq (⟨"SeparateScreensModel", "inkOf", "(IIII)I"⟩, 19) := ⟨⟨by decide +kernel, by decide +kernel⟩, List.mem_of_getElem? (i := 521) (by decide +kernel), List.mem_of_getElem? (i := 647) (by decide +kernel), List.mem_of_getElem? (i := 648) (by decide +kernel)⟩
theorem lw_p21 : lw_okq (⟨"SeparateScreensModel", "byteAt", "(III)I"⟩, 19) := ⟨⟨by decide +kernel, by decide +kernel⟩, List.mem_of_getElem? (i := 521) (by decide +kernel), List.mem_of_getElem? (i := 651) (by decide +kernel), List.mem_of_getElem? (i := 652) (by decide +kernel)⟩
theorem lw_p22 : lw_okq (⟨"SeparateScreensModel", "areUnlike", "(IIII)Z"⟩, 19) := ⟨⟨by decide +kernel, by decide +kernel⟩, List.mem_of_getElem? (i := 521) (by decide +kernel), List.mem_of_getElem? (i := 655) (by decide +kernel), List.mem_of_getElem? (i := 656) (by decide +kernel)⟩
theorem lw_p23 : lw_okq (⟨"SeparateScreensModel", "curve", "(I)I"⟩, 19) := ⟨⟨by decide +kernel, by decide +kernel⟩, List.mem_of_getElem? (i := 521) (by decide +kernel), List.mem_of_getElem? (i := 659) (by decide +kernel), List.mem_of_getElem? (i := 660) (by decide +kernel)⟩
theorem lw_p24 : lw_okq (⟨"SeparateScreensModel", "sameOf", "(III)I"⟩, 19) := ⟨⟨by decide +kernel, by decide +kernel⟩, List.mem_of_getElem? (i := 521) (by decide +kernel), List.mem_of_getElem? (i := 692) (by decide +kernel), List.mem_of_getElem? (i := 693) (by decide +kernel)⟩
theorem lw_p25 : lw_okq (⟨"SeparateScreensModel", "isCell", "(I)Z"⟩, 19) := ⟨⟨by decide +kernel, by decide +kernel⟩, List.mem_of_getElem? (i := 521) (by decide +kernel), List.mem_of_getElem? (i := 703) (by decide +kernel), List.mem_of_getElem? (i := 704) (by decide +kernel)⟩
theorem lw_p26 : lw_okq (⟨"SeparateScreensModel", "runsOf", "(I)I"⟩, 19) := ⟨⟨by decide +kernel, by decide +kernel⟩, List.mem_of_getElem? (i := 521) (by decide +kernel), List.mem_of_getElem? (i := 728) (by decide +kernel), List.mem_of_getElem? (i := 729) (by decide +kernel)⟩
theorem lw_p27 : lw_okq (⟨"SeparateScreensModel", "begins", "(III)Z"⟩, 19) := ⟨⟨by decide +kernel, by decide +kernel⟩, List.mem_of_getElem? (i := 521) (by decide +kernel), List.mem_of_getElem? (i := 732) (by decide +kernel), List.mem_of_getElem? (i := 733) (by decide +kernel)⟩
def lw_privs_2 : List (MethodName × Nat) := [(⟨"SeparateScreensModel", "isPoint", "(II)Z"⟩, 19), (⟨"SeparateScreensModel", "lenderOf", "(II)I"⟩, 19), (⟨"SeparateScreensModel", "lightness", "(II)I"⟩, 19), (⟨"SeparateScreensModel", "bandOf", "(IIII)I"⟩, 19), (⟨"SeparateScreensModel", "inkOf", "(IIII)I"⟩, 19), (⟨"SeparateScreensModel", "byteAt", "(III)I"⟩, 19), (⟨"SeparateScreensModel", "areUnlike", "(IIII)Z"⟩, 19), (⟨"SeparateScreensModel", "curve", "(I)I"⟩, 19), (⟨"SeparateScreensModel", "sameOf", "(III)I"⟩, 19), (⟨"SeparateScreensModel", "isCell", "(I)Z"⟩, 19), (⟨"SeparateScreensModel", "runsOf", "(I)I"⟩, 19), (⟨"SeparateScreensModel", "begins", "(III)Z"⟩, 19)]
theorem lw_r2 : ∀ q ∈ lw_privs_2, lw_okq q := List.forall_mem_cons.mpr ⟨lw_p16, List.forall_mem_cons.mpr ⟨lw_p17, List.forall_mem_cons.mpr ⟨lw_p18, List.forall_mem_cons.mpr ⟨lw_p19, List.forall_mem_cons.mpr ⟨lw_p20, List.forall_mem_cons.mpr ⟨lw_p21, List.forall_mem_cons.mpr ⟨lw_p22, List.forall_mem_cons.mpr ⟨lw_p23, List.forall_mem_cons.mpr ⟨lw_p24, List.forall_mem_cons.mpr ⟨lw_p25, List.forall_mem_cons.mpr ⟨lw_p26, List.forall_mem_cons.mpr ⟨lw_p27, fun _ h => absurd h List.not_mem_nil⟩⟩⟩⟩⟩⟩⟩⟩⟩⟩⟩⟩
def lw_privs : List (MethodName × Nat) := lw_privs_1 ++ (lw_privs_2)
def lw_tbl : List Cond := k2_sels lw_privs ++ tables_1
theorem lw_privs_ok : ∀ q ∈ lw_privs, lw_okq q := by
  show ∀ q ∈ lw_privs_1 ++ (lw_privs_2), lw_okq q
  exact List.forall_mem_append.mpr ⟨lw_r1, lw_r2⟩
end
section
/-! ===== BEGIN words of one list among another's, by their places ===== -/
theorem goodIn_r {big : List Cond} (ws : List Cond) (ps : List Nat) (hp : ws = ps.filterMap (fun i => big[i]?)) (h : ws.all goodWord = true) : GoodIn big ws := by
  intro w hw
  have h1 := List.all_eq_true.mp h w hw
  rw [hp] at hw
  obtain ⟨i, -, hi⟩ := List.mem_filterMap.mp hw
  have hm : w ∈ big := by first | exact List.mem_of_getElem? hi | exact List.getElem?_mem hi
  exact ⟨hm, good_of_word h1⟩
theorem goodIn_app {big a b : List Cond} (ha : GoodIn big a) (hb : GoodIn big b) : GoodIn big (a ++ b) := fun w h => (List.mem_append.mp h).elim (ha w) (hb w)
theorem goodIn_ca {big a b : List Cond} {c : Cond} (ha : GoodIn big (c :: a)) (hb : GoodIn big b) : GoodIn big (c :: (a ++ b)) := fun w h => (List.mem_cons.mp h).elim (fun e => ha w (List.mem_cons.mpr (Or.inl e))) (fun h => (List.mem_append.mp h).elim (fun h => ha w (List.mem_cons.mpr (Or.inr h))) (hb w))
theorem goodIn_sub {big ws : List Cond} (hm : ∀ w ∈ ws, w ∈ big) (h : ws.all goodWord = true) : GoodIn big ws := fun w hw => ⟨hm w hw, good_of_word (List.all_eq_true.mp h w hw)⟩
/-! ===== END ===== -/

/-! ===== BEGIN exceptions that leave a method, and their catching by the caller (launches without stack traces) ===== -/
section VXA
/-! The laws vx_back, vx_callV, vx_callS, vx_callSW, vx_throw0, vx_throwS follow proofs of the library, with one case more: JvmDerived/Free/Laws.lean (Back.of_free), Shelf42/LK1.lean (callV, callS), Shelf/KitTraced.lean (throwNew0V, throwNewS). -/
/-- where a method has thrown q: the class by its name, the cell, what was written, the world -/
def vx_T (XC : String → State → State → Prop) (st : State) (q : Addr) (t : State) (mc ms : Nat) (free : Addr → Prop) : Prop :=
  ∃ (E : String) (ce : Cell) (L : List Loc), XC E st t ∧ t.heap[q]? = some ce ∧ ce.vm = .none ∧ st.vm.findClass E = some ce.cls ∧ st.WarmedH t.vm ∧ st.sameButNew ({ t with vm := st.vm } : State) L mc ms ∧ ∀ z ∈ L, free z.base
def vx_Q (Qc : Array Value → State → Outcome → State → Prop) (XC : String → State → State → Prop) (mc ms : Nat) (free : Addr → Prop) : Array Value → State → Outcome → State → Prop := fun a st o t =>
  (Qc a st o t ∧ ∃ L, FrameEnd st o t L mc ms ∧ ∀ q ∈ L, free q.base) ∨ ∃ q, o = .threw q ∧ vx_T XC st q t mc ms free
/-- a callee that returns or throws -/
def vx_Met (l : Launch) (y : MethodName) (ws : List Cond) (rm : Room) (Pc : Array Value → State → Prop) (Qc : Array Value → State → Outcome → State → Prop) (XC : String → State → State → Prop) (mc ms : Nat) (free : Addr → Prop) : Prop :=
  MetFree l y (headSpec ws rm) Pc (fun _ _ _ _ _ => True) (vx_Q Qc XC mc ms free)
def vx_Post (XC : String → State → State → Prop) (mc ms : Nat) (free : Addr → Prop) : Pt → Array Value → Addr → Pt → Prop := fun A a q B =>
  ∃ (g : JFrame) (mk : MethodId) (t : State) (L : List Loc) (E : String) (ce : Cell), B.U.heap = t.heap ∧ B.U.vm = t.vm ∧ XC E (A.U.calling g mk a) t ∧ t.heap[q]? = some ce ∧ ce.vm = .none ∧ A.U.vm.findClass E = some ce.cls ∧ B.locs = A.locs ++ L ∧ (∀ z ∈ L, free z.base) ∧ B.cells = A.cells + mc ∧ B.slots = A.slots + ms
def vx_Back (l : Launch) (R : Room) (p : Program) (e : Env) (below : List Frame) (s : State) (sargs : Array Value) (y : MethodName) (len W9 : Nat)
    (Pre : Pt → Array Value → Prop) (Post : Pt → Array Value → Option Value → Pt → Prop) (PostX : Pt → Array Value → Addr → Pt → Prop) : Prop :=
  ∀ (m : MethodId) (meth : Method) (c : Code) (A : Pt) (g : JFrame) (ig : Instr) (mk : MethodId) (a : Array Value),
    Stand p l e R s m sargs below meth c A.U A.locs A.cells A.slots → g.method = m → g.locals.size = c.maxLocals → decode c.code g.pc = .ok (ig, len) →
    2 * g.monitorRoom + (g.stack.map fun v => v.category).sum ≤ W9 → A.U.methodNamed? y = some mk → Pre A a →
    (∃ (v : Option Value) (B : Pt), Stand p l e R s m sargs below meth c B.U B.locs B.cells B.slots ∧ Post A a v B ∧
      Steps p.tables e below (doInvoke e (A.U.setTop g) [] mk a).1 (B.U.setTop { g with pc := g.pc + len, stack := v.toList ++ g.stack })) ∨
    (∃ (q : Addr) (B : Pt), Stand p l e R s m sargs below meth c B.U B.locs B.cells B.slots ∧ PostX A a q B ∧
      Steps p.tables e below (doInvoke e (A.U.setTop g) [] mk a).1 ((B.U.setTop g).pushFrame (.throwing q)))
section Payer
variable {l : Launch} {R : Room} {p : Program} {e : Env} {below : List Frame} {s : State} {sargs : Array Value} {y : MethodName} {len W9 : Nat}
theorem vx_back {ws : List Cond} {rm : Room} {Pc : Array Value → State → Prop} {Qc : Array Value → State → Outcome → State → Prop} {XC : String → State → State → Prop} {mc ms : Nat} {free : Addr → Prop} {bytes : ByteArray} {maxL : Nat} {ret : Option FieldType}
    (hM : vx_Met l y ws rm Pc Qc XC mc ms free) (hblind : FrameBlind Pc) (hrc : rm.cells = mc) (hrs : rm.slots = ms)
    (hframes : rm.frames + 1 ≤ R.frames) (hlocals : W9 + (maxL + 11) + rm.locals ≤ R.locals)
    (hws : ∀ w ∈ ws, ∀ a' U, s.WarmedH U.vm → w.before a' U = true) (hcode : Cond.code y bytes maxL ret ∈ ws) (hinit : ∀ a' U, s.WarmedH U.vm → (Cond.initialized y.cls).before a' U = true) :
    vx_Back l R p e below s sargs y len W9 (PreOf R mc ms Pc) (PostOf Qc mc ms free) (vx_Post XC mc ms free) := by
  intro m meth c A g ig mk a X hg hsize hdg hW hn hp
  have h1 : (headSpec ws rm).pre.before a A.U = true := atoms_intro fun w hw => hws w hw _ _ X.warmed
  have h2 : (Cond.code y bytes maxL ret).before a A.U = true := hws _ hcode _ _ X.warmed
  have h3 : (Cond.initialized y.cls).before a A.U = true := hinit _ _ X.warmed
  have h4 : A.cells + (headSpec ws rm).room.cells ≤ R.cells := by rw [show (headSpec ws rm).room.cells = mc from hrc]; exact hp.1
  have h5 : A.slots + (headSpec ws rm).room.slots ≤ R.slots := by rw [show (headSpec ws rm).room.slots = ms from hrs]; exact hp.2.1
  have hPc : Pc a (A.U.calling g mk a) := hblind _ _ _ _ hp.2.2
  obtain ⟨U, Ls, c0, s0⟩ := A
  dsimp only [Pt.U, Pt.locs, Pt.cells, Pt.slots] at h1 h2 h3 h4 h5 X hn hPc ⊢
  obtain ⟨methY, cY, hmY, hcY, -, hlY, -, -, -, -⟩ := Cond.code_spec hn h2
  obtain ⟨kY, hkY, -⟩ := className_of_methodNamed hn
  have hinitY : kY.init = .initialized := Cond.initialized_spec (findClass_of_methodNamed hn) hkY h3
  have h : At U g.method c below := by rw [hg]; exact X.here
  have hlocals9 : W9 + (maxL + 11) + (headSpec ws rm).room.locals ≤ R.locals := hlocals
  have happ : (headSpec ws rm).appliesLoose y e.platform (U.calling g mk a) = true :=
    Spec.appliesLoose_calling (g := g) h hdg hn hkY hinitY
      (X.room_calling (g := g) (R' := (headSpec ws rm).room) hsize hmY hcY hframes (by rw [hlY]; omega) h4 h5) h1
  obtain ⟨mid, hmid⟩ := h.above
  have hfr : (U.setTop g).frames = (.java g :: mid) ++ below := by rw [State.frames_setTop' g h.top, hmid]; rfl
  obtain ⟨o, s₂, hsteps, -, hend, hq⟩ := Steps.callFree hM p X.admits X.cas X.clock (acts := []) hfr happ hPc trivial
  have hq' : vx_Q Qc XC mc ms free a (U.calling g mk a) o s₂ := hq
  rw [State.frames_setTop' g h.top] at hend
  obtain ⟨g₀, hg0⟩ := Option.isSome_iff_exists.mp h.top
  obtain ⟨r, hr⟩ := State.topJava?_eq_some.mp hg0
  have hr' : (({ U with heap := s₂.heap, slotsUsed := s₂.slotsUsed } : State).setVm s₂.vm).frames = .java g₀ :: r := hr
  rcases hq' with ⟨hqc, L, hfe, hL⟩ | ⟨q, rfl, E, ce, L, hx, hce, hcv, hcl, hW₂, hsm, hL⟩
  · obtain ⟨⟨v, rfl⟩, hW₂, e2, q2, q3, q4, q5, q6⟩ := id hfe
    have e3 : s₂ = ({ (U.calling g mk a).setFrames s₂.frames with heap := s₂.heap, slotsUsed := s₂.slotsUsed } : State).setVm s₂.vm := by
      have : s₂ = ({ s₂ with vm := (U.calling g mk a).vm } : State).setVm s₂.vm := rfl
      rw [e2] at this
      exact this
    obtain ⟨c₂, i₂, len₂, hc₂, hd₂, hf₂⟩ := hend
    have hW' : U.WarmedH s₂.vm := hW₂
    have hcc : c₂ = c := by
      have h1 : s₂.code? g.method = U.code? g.method := by
        rw [State.code?_eq, State.code?_eq, hW'.alike.method?]
      exact Option.some.inj (hc₂.symm.trans (h1.trans h.code))
    subst hcc
    have hlen : len₂ = len := by rw [hdg] at hd₂; cases hd₂; rfl
    subst hlen
    have hs₂ : s₂ = (({ U with heap := s₂.heap, slotsUsed := s₂.slotsUsed } : State).setVm s₂.vm).setTop { g with pc := g.pc + len₂, stack := v.toList ++ g.stack } := by
      refine e3.trans ?_
      rw [hf₂, State.calling_eq h.top, State.setFrames_setFrames, State.setTop_of_frames _ hr', hr]
      rfl
    have hsame : U.sameButNew ({ U with heap := s₂.heap, slotsUsed := s₂.slotsUsed } : State) L mc ms := by
      refine ⟨?_, q2, q3, q4, q5, q6⟩
      obtain ⟨t, ht, -⟩ := State.frames_cons hr
      show ({ U with heap := s₂.heap, slotsUsed := s₂.slotsUsed } : State) = { U.setFrames U.frames with heap := s₂.heap, slotsUsed := s₂.slotsUsed }
      rw [State.setFrames_self ht]
    subst hg
    refine Or.inl ⟨v, ⟨(({ U with heap := s₂.heap, slotsUsed := s₂.slotsUsed } : State).setVm s₂.vm), Ls ++ L, c0 + mc, s0 + ms⟩,
      ⟨X.admits, X.cas, X.clock, X.frames, X.room, X.hears, X.method, X.code, (X.here.setHeapUsed s₂.heap s₂.slotsUsed).setVm hW'.alike, X.tail, State.WarmedH.trans X.warmed hW', X.limits, X.bytes, X.same.trans (hsame.setVm s.vm)⟩,
      ⟨g, mk, s₂, L, rfl, rfl, hqc, rfl, hL, rfl, rfl⟩, ?_⟩
    show Steps p.tables e below _ ((({ U with heap := s₂.heap, slotsUsed := s₂.slotsUsed } : State).setVm s₂.vm).setTop { g with pc := g.pc + len₂, stack := v.toList ++ g.stack })
    rw [← hs₂]
    exact hsteps
  · obtain ⟨e2, q2, q3, q4, q5, q6⟩ := id hsm
    have e3 : s₂ = ({ (U.calling g mk a).setFrames s₂.frames with heap := s₂.heap, slotsUsed := s₂.slotsUsed } : State).setVm s₂.vm := by
      have : s₂ = ({ s₂ with vm := (U.calling g mk a).vm } : State).setVm s₂.vm := rfl
      rw [e2] at this
      exact this
    have hf₂ : s₂.frames = .throwing q :: .java g :: U.frames.tail := hend
    have hW' : U.WarmedH s₂.vm := hW₂
    have hs₂ : s₂ = ((({ U with heap := s₂.heap, slotsUsed := s₂.slotsUsed } : State).setVm s₂.vm).setTop g).pushFrame (.throwing q) := by
      refine e3.trans ?_
      rw [hf₂, State.calling_eq h.top, State.setFrames_setFrames, State.pushFrame, State.frames_setTop _ hr', State.setTop_of_frames _ hr', State.setFrames_setFrames, hr]
      rfl
    have hsame : U.sameButNew ({ U with heap := s₂.heap, slotsUsed := s₂.slotsUsed } : State) L mc ms := by
      refine ⟨?_, q2, q3, q4, q5, q6⟩
      obtain ⟨t, ht, -⟩ := State.frames_cons hr
      show ({ U with heap := s₂.heap, slotsUsed := s₂.slotsUsed } : State) = { U.setFrames U.frames with heap := s₂.heap, slotsUsed := s₂.slotsUsed }
      rw [State.setFrames_self ht]
    subst hg
    refine Or.inr ⟨q, ⟨(({ U with heap := s₂.heap, slotsUsed := s₂.slotsUsed } : State).setVm s₂.vm), Ls ++ L, c0 + mc, s0 + ms⟩,
      ⟨X.admits, X.cas, X.clock, X.frames, X.room, X.hears, X.method, X.code, (X.here.setHeapUsed s₂.heap s₂.slotsUsed).setVm hW'.alike, X.tail, State.WarmedH.trans X.warmed hW', X.limits, X.bytes, X.same.trans (hsame.setVm s.vm)⟩,
      ⟨g, mk, s₂, L, E, ce, rfl, rfl, hx, hce, hcv, hcl, rfl, hL, rfl, rfl⟩, ?_⟩
    show Steps p.tables e below _ (((({ U with heap := s₂.heap, slotsUsed := s₂.slotsUsed } : State).setVm s₂.vm).setTop g).pushFrame (.throwing q))
    rw [← hs₂]
    exact hsteps
end Payer
section Calls
variable {p : Program} {l : Launch} {e : Env} {R : Room} {s : State} {m : MethodId} {args : Array Value} {below : List Frame} {meth : Method} {c : Code} {T : State} {locs : List Loc} {cells slots : Nat}
theorem vx_callV (X : Stand p l e R s m args below meth c T locs cells slots) (hexec : p.tables.exec = Jvm.exec) {own C : String} {index : Nat} {y : MethodName} {bytes : ByteArray} {maxL : Nat} {ret : Option FieldType}
    (hown : s.vm.findClass own = some m.cls) (hlink : (Cond.methodLink own index y).before args s = true) (hinst : (Cond.instanceMethod y).before args s = true) (hsel : (Cond.selects C y y).before args s = true)
    (hcode : (Cond.code y bytes maxL ret).before args s = true) (hy : y.cls ≠ "java/lang/invoke/MethodHandle" ∧ y.cls ≠ "java/lang/invoke/VarHandle")
    {W9 : Nat} {Pre : Pt → Array Value → Prop} {Post : Pt → Array Value → Option Value → Pt → Prop} {PostX : Pt → Array Value → Addr → Pt → Prop} (hK : vx_Back l R p e below s args y 3 W9 Pre Post PostX)
    {b : Addr} {cellB : Cell} (hcell : T.heap[b]? = some cellB) (hobj : cellB.vm.isStatics = false) (hcls : s.vm.findClass C = some cellB.cls)
    {g : JFrame} (hg : g.method = m) (hsize : g.locals.size = c.maxLocals) {argsL rest : List Value} (hlen : ∀ sig, parseMethodDescriptor y.desc = some sig → argsL.length = sig.parameters.length)
    (hstack : g.stack = argsL.reverse ++ .ref b :: rest) (hW : 2 * g.monitorRoom + (rest.map fun v => v.category).sum ≤ W9) (hdg : decode c.code g.pc = .ok (.invokevirtual index, 3))
    (hpre : ∀ vm₁, s.WarmedH vm₁ → Pre ⟨T.setVm vm₁, locs, cells, slots⟩ (Value.ref b :: argsL).toArray) :
    (∃ (v : Option Value) (vm₁ : Vm) (B : Pt), s.WarmedH vm₁ ∧ Stand p l e R s m args below meth c B.U B.locs B.cells B.slots ∧ Post ⟨T.setVm vm₁, locs, cells, slots⟩ (Value.ref b :: argsL).toArray v B ∧
      ∀ target, Steps p.tables e below (B.U.setTop { g with pc := g.pc + 3, stack := v.toList ++ rest }) target → Steps p.tables e below (T.setTop g) target) ∨
    (∃ (q : Addr) (vm₁ : Vm) (B : Pt), s.WarmedH vm₁ ∧ Stand p l e R s m args below meth c B.U B.locs B.cells B.slots ∧ PostX ⟨T.setVm vm₁, locs, cells, slots⟩ (Value.ref b :: argsL).toArray q B ∧
      Steps p.tables e below (T.setTop g) ((B.U.setTop { g with stack := rest }).pushFrame (.throwing q))) := by
  obtain ⟨mk, methM, hnamed, hmethM, hstM, habM⟩ := Cond.instanceMethod_spec hinst
  obtain ⟨methM', cM, hmethM', -, -, -, -, -, -, hsigM⟩ := Cond.code_spec hnamed hcode
  cases hmethM.symm.trans hmethM'
  obtain ⟨c2, r2, m2, q1, q2, q3, q4, kP, hkP, hkPi⟩ := Cond.selects_spec hsel
  cases hcls.symm.trans q1
  cases (State.methodFound?_of_named hnamed hy).symm.trans q2
  cases hnamed.symm.trans q3
  have hselP : selectMethod e.platform s.vm cellB.cls mk = .method mk := by rw [Launch.admits_selectMethod X.admits]; exact q4
  obtain ⟨vm₁, X₁, hstep₁⟩ := X.invokevirtual hexec hown hlink hnamed hmethM hstM hkP hkPi hy (a := b) (cell := cellB) hcell
    (fun z h => by rw [h] at hobj; cases hobj) hselP hmethM habM hkP hkPi (g := g) hg (argsL := argsL) (rest := rest) (hlen _ hsigM) hstack hdg
  rcases hK m meth c ⟨T.setVm vm₁, locs, cells, slots⟩ { g with stack := rest } (.invokevirtual index) mk (Value.ref b :: argsL).toArray X₁ hg hsize hdg hW (X₁.named hnamed) (hpre vm₁ X₁.warmed) with ⟨v, B, X', hpost, hsteps⟩ | ⟨q, B, X', hpost, hsteps⟩
  · exact Or.inl ⟨v, vm₁, B, X₁.warmed, X', hpost, fun target h => hstep₁ _ fun acts => by rw [doInvoke_state]; exact hsteps.trans h⟩
  · exact Or.inr ⟨q, vm₁, B, X₁.warmed, X', hpost, hstep₁ _ fun acts => by rw [doInvoke_state]; exact hsteps⟩
theorem vx_callS (X : Stand p l e R s m args below meth c T locs cells slots) (hexec : p.tables.exec = Jvm.exec) {own : String} {index : Nat} {y : MethodName} {bytes : ByteArray} {maxL : Nat} {ret : Option FieldType}
    (hown : s.vm.findClass own = some m.cls) (hlink : (Cond.methodLink own index y).before args s = true) (hstat : (Cond.static y).before args s = true) (hinit : (Cond.initialized y.cls).before args s = true)
    (hcode : (Cond.code y bytes maxL ret).before args s = true) (hy : y.cls ≠ "java/lang/invoke/MethodHandle" ∧ y.cls ≠ "java/lang/invoke/VarHandle")
    {W9 : Nat} {Pre : Pt → Array Value → Prop} {Post : Pt → Array Value → Option Value → Pt → Prop} {PostX : Pt → Array Value → Addr → Pt → Prop} (hK : vx_Back l R p e below s args y 3 W9 Pre Post PostX)
    {g : JFrame} (hg : g.method = m) (hsize : g.locals.size = c.maxLocals) {argsL rest : List Value} (hlen : ∀ sig, parseMethodDescriptor y.desc = some sig → argsL.length = sig.parameters.length)
    (hstack : g.stack = argsL.reverse ++ rest) (hW : 2 * g.monitorRoom + (rest.map fun v => v.category).sum ≤ W9) (hdg : decode c.code g.pc = .ok (.invokestatic index, 3))
    (hpre : ∀ vm₁, s.WarmedH vm₁ → Pre ⟨T.setVm vm₁, locs, cells, slots⟩ argsL.toArray) :
    (∃ (v : Option Value) (vm₁ : Vm) (B : Pt), s.WarmedH vm₁ ∧ Stand p l e R s m args below meth c B.U B.locs B.cells B.slots ∧ Post ⟨T.setVm vm₁, locs, cells, slots⟩ argsL.toArray v B ∧
      ∀ target, Steps p.tables e below (B.U.setTop { g with pc := g.pc + 3, stack := v.toList ++ rest }) target → Steps p.tables e below (T.setTop g) target) ∨
    (∃ (q : Addr) (vm₁ : Vm) (B : Pt), s.WarmedH vm₁ ∧ Stand p l e R s m args below meth c B.U B.locs B.cells B.slots ∧ PostX ⟨T.setVm vm₁, locs, cells, slots⟩ argsL.toArray q B ∧
      Steps p.tables e below (T.setTop g) ((B.U.setTop { g with stack := rest }).pushFrame (.throwing q))) := by
  obtain ⟨mk, hnamed⟩ := Cond.code_named hcode
  obtain ⟨methM, cM, hmethM, -, -, -, -, -, -, hsigM⟩ := Cond.code_spec hnamed hcode
  have hstatic : methM.isStatic = true := Cond.static_spec hnamed hmethM hstat
  obtain ⟨kP, hkP, -⟩ := className_of_methodNamed hnamed
  have hinitP : kP.init = .initialized := Cond.initialized_spec (findClass_of_methodNamed hnamed) hkP hinit
  obtain ⟨vm₁, X₁, hstep₁⟩ := X.invokestatic hexec hown hlink hnamed hmethM hstatic hkP hinitP hy (g := g) hg (argsL := argsL) (rest := rest) (hlen _ hsigM) hstack hdg
  rcases hK m meth c ⟨T.setVm vm₁, locs, cells, slots⟩ { g with stack := rest } (.invokestatic index) mk argsL.toArray X₁ hg hsize hdg hW (X₁.named hnamed) (hpre vm₁ X₁.warmed) with ⟨v, B, X', hpost, hsteps⟩ | ⟨q, B, X', hpost, hsteps⟩
  · exact Or.inl ⟨v, vm₁, B, X₁.warmed, X', hpost, fun target h => hstep₁ _ fun acts => by rw [doInvoke_state]; exact hsteps.trans h⟩
  · exact Or.inr ⟨q, vm₁, B, X₁.warmed, X', hpost, hstep₁ _ fun acts => by rw [doInvoke_state]; exact hsteps⟩
end Calls
theorem vx_cls {s : State} {T : State} {vm₁ : Vm} {E : String} {k : ClassId} (hW : s.WarmedH vm₁) (h : (T.setVm vm₁).vm.findClass E = some k) : s.vm.findClass E = some k := by
  have h1 : vm₁.findClass E = some k := h
  rw [hW.alike.findClass] at h1
  exact h1
/-- the method's frame g, with q thrown over it -/
def vx_W (p : Program) (l : Launch) (e : Env) (R : Room) (s : State) (m : MethodId) (args : Array Value) (below : List Frame) (meth : Method) (c : Code) (H : Heap) (locs : List Loc) (cells slots : Nat) (Q : State → Prop) (g : JFrame) (q : Addr) : Prop :=
  ∀ T : State, T.heap = H → Stand p l e R s m args below meth c T locs cells slots → ∃ t, Steps p.tables e below ((T.setTop g).pushFrame (.throwing q)) t ∧ Q t
def vx_Run (p : Program) (l : Launch) (e : Env) (R : Room) (s : State) (m : MethodId) (args : Array Value) (below : List Frame) (meth : Method) (c : Code) (H : Heap) (locs : List Loc) (cells slots mc ms : Nat) (g : JFrame) (rest : List Value) (Qa : State → Outcome → State → Prop) (XC : String → State → State → Prop) (free : Addr → Prop) : Prop :=
  ∀ T : State, T.heap = H → Stand p l e R s m args below meth c T locs cells slots →
    (∃ (v : Option Value) (st₀ t T' : State) (L : List Loc), st₀.heap = H ∧ Stand p l e R s m args below meth c T' (locs ++ L) (cells + mc) (slots + ms) ∧ (∀ q ∈ L, free q.base) ∧ T'.heap = t.heap ∧ T'.vm = t.vm ∧ Qa st₀ (.returned v) t ∧
      Goes p e below T g T' { g with pc := g.pc + 3, stack := v.toList ++ rest }) ∨
    (∃ (q : Addr) (st₀ t T' : State) (L : List Loc) (E : String) (ce : Cell), st₀.heap = H ∧ Stand p l e R s m args below meth c T' (locs ++ L) (cells + mc) (slots + ms) ∧ (∀ z ∈ L, free z.base) ∧ T'.heap = t.heap ∧ T'.vm = t.vm ∧ XC E st₀ t ∧ t.heap[q]? = some ce ∧ ce.vm = .none ∧ s.vm.findClass E = some ce.cls ∧
      Steps p.tables e below (T.setTop g) ((T'.setTop { g with stack := rest }).pushFrame (.throwing q)))
def vx_X {S : Type} (px : S → Prop) (B : String → S → State → Prop) (A : Nat → Prop) : String → State → State → Prop := fun E st t => ∃ u : S, px u ∧ B E u t ∧ va_F A st t
section Runs
variable {p : Program} {l : Launch} {e : Env} {R : Room} {s : State} {m : MethodId} {args : Array Value} {below : List Frame} {meth : Method} {c : Code} {H : Heap} {locs : List Loc} {cells slots : Nat}
variable {y : MethodName} {bytes cc : ByteArray} {maxL nL mc ms n index : Nat} {ret : Option FieldType} {ws : List Cond} {rm : Room} {Pc : Array Value → State → Prop} {Qc : Array Value → State → Outcome → State → Prop} {XC : String → State → State → Prop} {free : Addr → Prop} {Ts : List Cond} {own C : String} {b : Addr} {As rest : List Value} {g : JFrame}
theorem vx_callBack (cb : CallB R s args own index y bytes maxL ret ws rm mc ms n) (hM : vx_Met l y ws rm Pc Qc XC mc ms free) (hbl : FrameBlind Pc) : vx_Back l R p e below s args y 3 8 (PreOf R mc ms Pc) (PostOf Qc mc ms free) (vx_Post XC mc ms free) := by
  obtain ⟨hrc, hrs, hfr, hlo, hws, hcw, -, hini, -⟩ := cb
  exact vx_back (bytes := bytes) (maxL := maxL) (ret := ret) hM hbl hrc hrs hfr hlo hws hcw (fun a' U hW => word_at hW (Or.inl (by first | rfl | simp [Cond.onTables, Cond.keeps, Cond.steady])) hini)
theorem vx_runV (S : CallFix p m c cc nL s args Ts own) (hM : vx_Met l y ws rm Pc Qc XC mc ms free) (cw : CallW R s args own C index y bytes maxL ret ws rm mc ms n) (hp : PreV s H C b Pc As)
    (hg : g.method = m) (hn : As.length = n) (hsize : g.locals.size = nL) (hstack : g.stack = As.reverse ++ .ref b :: rest) (hW : 2 * g.monitorRoom + (rest.map fun v => v.category).sum ≤ 8) (hdg : decode cc g.pc = .ok (.invokevirtual index, 3)) (hf : cells + mc ≤ R.cells ∧ slots + ms ≤ R.slots) :
    vx_Run p l e R s m args below meth c H locs cells slots mc ms g rest (Qc (Value.ref b :: As).toArray) XC free := by
  have hK : vx_Back l R p e below s args y 3 8 (PreOf R mc ms Pc) (PostOf Qc mc ms free) (vx_Post XC mc ms free) := vx_callBack cw.1 hM hp.1
  obtain ⟨⟨-, -, -, -, -, -, hcode, -, hy, hlen, hl⟩, hin, hse⟩ := cw
  obtain ⟨hx, hb, hml, ho, -⟩ := S
  obtain ⟨-, ⟨cellB, hcB, hoB, hclB⟩, hPc⟩ := hp
  intro T hT X
  rcases vx_callV X hx (C := C) (bytes := bytes) (maxL := maxL) (ret := ret) ho hl hin hse hcode hy hK (by rw [hT]; exact hcB) hoB hclB hg (hsize.trans hml.symm) (argsL := As) (rest := rest) (fun sig h => hn.trans (hlen sig h)) hstack hW (by rw [hb]; exact hdg)
    (fun vm₁ hW₁ => ⟨hf.1, hf.2, hPc (T.setVm vm₁) hT hW₁⟩) with ⟨v, vm₁, ⟨U', l2, c2, s2⟩, hW₁, X', ⟨g', mk, t, L, e1, e2, hq, h1, hL, h2, h3⟩, st⟩ | ⟨q, vm₁, ⟨U', l2, c2, s2⟩, hW₁, X', ⟨g', mk, t, L, E, ce, e1, e2, hq, hce, hcv, hcl, h1, hL, h2, h3⟩, st⟩
  · dsimp only [Pt.U, Pt.locs, Pt.cells, Pt.slots] at X' e1 e2 h1 h2 h3 st
    subst h1; subst h2; subst h3
    exact Or.inl ⟨v, (T.setVm vm₁).calling g' mk (Value.ref b :: As).toArray, t, U', L, hT, X', hL, e1, e2, hq, st⟩
  · dsimp only [Pt.U, Pt.locs, Pt.cells, Pt.slots] at X' e1 e2 h1 h2 h3 st hcl
    subst h1; subst h2; subst h3
    exact Or.inr ⟨q, (T.setVm vm₁).calling g' mk (Value.ref b :: As).toArray, t, U', L, E, ce, hT, X', hL, e1, e2, hq, hce, hcv, vx_cls hW₁ hcl, st⟩
theorem vx_runS (S : CallFix p m c cc nL s args Ts own) (hM : vx_Met l y ws rm Pc Qc XC mc ms free) (cw : CallB R s args own index y bytes maxL ret ws rm mc ms n ∧ (Cond.static y).before args s = true) (hp : PreS s H Pc As)
    (hg : g.method = m) (hn : As.length = n) (hsize : g.locals.size = nL) (hstack : g.stack = As.reverse ++ rest) (hW : 2 * g.monitorRoom + (rest.map fun v => v.category).sum ≤ 8) (hdg : decode cc g.pc = .ok (.invokestatic index, 3)) (hf : cells + mc ≤ R.cells ∧ slots + ms ≤ R.slots) :
    vx_Run p l e R s m args below meth c H locs cells slots mc ms g rest (Qc As.toArray) XC free := by
  have hK : vx_Back l R p e below s args y 3 8 (PreOf R mc ms Pc) (PostOf Qc mc ms free) (vx_Post XC mc ms free) := vx_callBack cw.1 hM hp.1
  obtain ⟨⟨-, -, -, -, -, -, hcode, hini, hy, hlen, hl⟩, hstt⟩ := cw
  obtain ⟨hx, hb, hml, ho, -⟩ := S
  intro T hT X
  rcases vx_callS X hx (bytes := bytes) (maxL := maxL) (ret := ret) ho hl hstt hini hcode hy hK hg (hsize.trans hml.symm) (argsL := As) (rest := rest) (fun sig h => hn.trans (hlen sig h)) hstack hW (by rw [hb]; exact hdg)
    (fun vm₁ hW₁ => ⟨hf.1, hf.2, hp.2 (T.setVm vm₁) hT hW₁⟩) with ⟨v, vm₁, ⟨U', l2, c2, s2⟩, hW₁, X', ⟨g', mk, t, L, e1, e2, hq, h1, hL, h2, h3⟩, st⟩ | ⟨q, vm₁, ⟨U', l2, c2, s2⟩, hW₁, X', ⟨g', mk, t, L, E, ce, e1, e2, hq, hce, hcv, hcl, h1, hL, h2, h3⟩, st⟩
  · dsimp only [Pt.U, Pt.locs, Pt.cells, Pt.slots] at X' e1 e2 h1 h2 h3 st
    subst h1; subst h2; subst h3
    exact Or.inl ⟨v, (T.setVm vm₁).calling g' mk As.toArray, t, U', L, hT, X', hL, e1, e2, hq, st⟩
  · dsimp only [Pt.U, Pt.locs, Pt.cells, Pt.slots] at X' e1 e2 h1 h2 h3 st hcl
    subst h1; subst h2; subst h3
    exact Or.inr ⟨q, (T.setVm vm₁).calling g' mk As.toArray, t, U', L, E, ce, hT, X', hL, e1, e2, hq, hce, hcv, vx_cls hW₁ hcl, st⟩
end Runs
section Rows
variable {p : Program} {l : Launch} {e : Env} {R : Room} {s : State} {m : MethodId} {args : Array Value} {below : List Frame} {meth : Method} {c : Code} {H : Heap} {locs : List Loc} {cells slots : Nat} {Q : State → Prop}
variable {mc ms : Nat} {free : Addr → Prop} {A0 A1 : Nat → Prop} {H0 : Heap} {a : Array Value} {pc : Nat} {ls : Array Slot} {st0 rest : List Value}
theorem vx_keep {st₀ t T' : State} {L : List Loc} (h0 : st₀.heap = H) (e1 : T'.heap = t.heap) (hS : va_S A0 H0 H locs) (hA : ∀ q, q < H.size → A1 q → A0 q) (hf : ∀ q, free q → A0 q) (hL : ∀ q ∈ L, free q.base) (hF : va_F A1 st₀ t) :
    H.size ≤ T'.heap.size ∧ (∀ q : Nat, q < H.size → ¬ A1 q → T'.heap[q]? = H[q]?) ∧ va_S A0 H0 T'.heap (locs ++ L) := by
  obtain ⟨hz, hk⟩ := hF
  rw [h0] at hz hk
  exact ⟨by rw [e1]; exact hz, fun q h1 h2 => by rw [e1]; exact hk q h1 h2,
    ⟨Nat.le_trans hS.1 (by rw [e1]; exact hz), fun q h1 h2 => by rw [e1, hk q (Nat.lt_of_lt_of_le h1 hS.1) (fun z => h2 (hA q (Nat.lt_of_lt_of_le h1 hS.1) z))]; exact hS.2.1 q h1 h2, fun q hq => by
      rcases List.mem_append.mp hq with h | h
      · exact hS.2.2 q h
      · exact hf _ (hL q h)⟩⟩
theorem vx_calli {S SX : Type} {post : Int32 → S → Prop} {px : SX → Prop} {B : S → State → Prop} {BX : String → SX → State → Prop} {AX : Nat → Prop} (hr : vx_Run p l e R s m args below meth c H locs cells slots mc ms (F0 m pc ls st0) rest (va_Qi post B A1 a) (vx_X px BX AX) free) (hS : va_S A0 H0 H locs) (hA : ∀ q, q < H.size → A1 q → A0 q) (hf : ∀ q, free q → A0 q) (hAX : ∀ q, q < H.size → AX q → A0 q)
    (kx : ∀ (E : String) (ce : Cell) (q9 : Addr) (u : SX) (t : State) (H1 : Heap) (locs1 : List Loc), t.heap = H1 → s.vm.Alike t.vm → px u → BX E u t → H.size ≤ H1.size → (∀ q : Nat, q < H.size → ¬ AX q → H1[q]? = H[q]?) → va_S A0 H0 H1 locs1 → H1[q9]? = some ce → ce.vm = .none → s.vm.findClass E = some ce.cls → vx_W p l e R s m args below meth c H1 locs1 (cells + mc) (slots + ms) Q (F0 m pc ls rest) q9)
    (kk : ∀ (r : Int32) (u : S) (t : State) (H1 : Heap) (locs1 : List Loc), t.heap = H1 → s.vm.Alike t.vm → post r u → B u t → H.size ≤ H1.size → (∀ q : Nat, q < H.size → ¬ A1 q → H1[q]? = H[q]?) → va_S A0 H0 H1 locs1 → W p l e R s m args below meth c H1 locs1 (cells + mc) (slots + ms) Q (F0 m (pc + 3) ls (.int r :: rest))) : W p l e R s m args below meth c H locs cells slots Q (F0 m pc ls st0) := by
  intro T hT X
  rcases hr T hT X with ⟨v, st₀, t, T', L, h0, X', hL, e1, e2, ⟨⟨r, u, hv, hp, hb⟩, hF⟩, st⟩ | ⟨q, st₀, t, T', L, E, ce, h0, X', hL, e1, e2, ⟨u, hp, hb, hF⟩, hce, hcv, hcl, st⟩
  · cases hv
    obtain ⟨k1, k2, k3⟩ := vx_keep h0 e1 hS hA hf hL hF
    obtain ⟨t2, a1, b1⟩ := kk r u t T'.heap (locs ++ L) e1.symm (by rw [← e2]; exact X'.warmed.alike) hp hb k1 k2 k3 T' rfl X'
    exact ⟨t2, st t2 a1, b1⟩
  · obtain ⟨k1, k2, k3⟩ := vx_keep h0 e1 hS hAX hf hL hF
    obtain ⟨t2, a1, b1⟩ := kx E ce q u t T'.heap (locs ++ L) e1.symm (by rw [← e2]; exact X'.warmed.alike) hp hb k1 k2 k3 (by rw [e1]; exact hce) hcv hcl T' rfl X'
    exact ⟨t2, st.trans a1, b1⟩
theorem vx_calll {S SX : Type} {post : Int64 → S → Prop} {px : SX → Prop} {B : S → State → Prop} {BX : String → SX → State → Prop} {AX : Nat → Prop} (hr : vx_Run p l e R s m args below meth c H locs cells slots mc ms (F0 m pc ls st0) rest (va_Ql post B A1 a) (vx_X px BX AX) free) (hS : va_S A0 H0 H locs) (hA : ∀ q, q < H.size → A1 q → A0 q) (hf : ∀ q, free q → A0 q) (hAX : ∀ q, q < H.size → AX q → A0 q)
    (kx : ∀ (E : String) (ce : Cell) (q9 : Addr) (u : SX) (t : State) (H1 : Heap) (locs1 : List Loc), t.heap = H1 → s.vm.Alike t.vm → px u → BX E u t → H.size ≤ H1.size → (∀ q : Nat, q < H.size → ¬ AX q → H1[q]? = H[q]?) → va_S A0 H0 H1 locs1 → H1[q9]? = some ce → ce.vm = .none → s.vm.findClass E = some ce.cls → vx_W p l e R s m args below meth c H1 locs1 (cells + mc) (slots + ms) Q (F0 m pc ls rest) q9)
    (kk : ∀ (r : Int64) (u : S) (t : State) (H1 : Heap) (locs1 : List Loc), t.heap = H1 → s.vm.Alike t.vm → post r u → B u t → H.size ≤ H1.size → (∀ q : Nat, q < H.size → ¬ A1 q → H1[q]? = H[q]?) → va_S A0 H0 H1 locs1 → W p l e R s m args below meth c H1 locs1 (cells + mc) (slots + ms) Q (F0 m (pc + 3) ls (.long r :: rest))) : W p l e R s m args below meth c H locs cells slots Q (F0 m pc ls st0) := by
  intro T hT X
  rcases hr T hT X with ⟨v, st₀, t, T', L, h0, X', hL, e1, e2, ⟨⟨r, u, hv, hp, hb⟩, hF⟩, st⟩ | ⟨q, st₀, t, T', L, E, ce, h0, X', hL, e1, e2, ⟨u, hp, hb, hF⟩, hce, hcv, hcl, st⟩
  · cases hv
    obtain ⟨k1, k2, k3⟩ := vx_keep h0 e1 hS hA hf hL hF
    obtain ⟨t2, a1, b1⟩ := kk r u t T'.heap (locs ++ L) e1.symm (by rw [← e2]; exact X'.warmed.alike) hp hb k1 k2 k3 T' rfl X'
    exact ⟨t2, st t2 a1, b1⟩
  · obtain ⟨k1, k2, k3⟩ := vx_keep h0 e1 hS hAX hf hL hF
    obtain ⟨t2, a1, b1⟩ := kx E ce q u t T'.heap (locs ++ L) e1.symm (by rw [← e2]; exact X'.warmed.alike) hp hb k1 k2 k3 (by rw [e1]; exact hce) hcv hcl T' rfl X'
    exact ⟨t2, st.trans a1, b1⟩
theorem vx_callf {S SX : Type} {post : UInt32 → S → Prop} {px : SX → Prop} {B : S → State → Prop} {BX : String → SX → State → Prop} {AX : Nat → Prop} (hr : vx_Run p l e R s m args below meth c H locs cells slots mc ms (F0 m pc ls st0) rest (va_Qf post B A1 a) (vx_X px BX AX) free) (hS : va_S A0 H0 H locs) (hA : ∀ q, q < H.size → A1 q → A0 q) (hf : ∀ q, free q → A0 q) (hAX : ∀ q, q < H.size → AX q → A0 q)
    (kx : ∀ (E : String) (ce : Cell) (q9 : Addr) (u : SX) (t : State) (H1 : Heap) (locs1 : List Loc), t.heap = H1 → s.vm.Alike t.vm → px u → BX E u t → H.size ≤ H1.size → (∀ q : Nat, q < H.size → ¬ AX q → H1[q]? = H[q]?) → va_S A0 H0 H1 locs1 → H1[q9]? = some ce → ce.vm = .none → s.vm.findClass E = some ce.cls → vx_W p l e R s m args below meth c H1 locs1 (cells + mc) (slots + ms) Q (F0 m pc ls rest) q9)
    (kk : ∀ (r : UInt32) (u : S) (t : State) (H1 : Heap) (locs1 : List Loc), t.heap = H1 → s.vm.Alike t.vm → post r u → B u t → H.size ≤ H1.size → (∀ q : Nat, q < H.size → ¬ A1 q → H1[q]? = H[q]?) → va_S A0 H0 H1 locs1 → W p l e R s m args below meth c H1 locs1 (cells + mc) (slots + ms) Q (F0 m (pc + 3) ls (.float r :: rest))) : W p l e R s m args below meth c H locs cells slots Q (F0 m pc ls st0) := by
  intro T hT X
  rcases hr T hT X with ⟨v, st₀, t, T', L, h0, X', hL, e1, e2, ⟨⟨r, u, hv, hp, hb⟩, hF⟩, st⟩ | ⟨q, st₀, t, T', L, E, ce, h0, X', hL, e1, e2, ⟨u, hp, hb, hF⟩, hce, hcv, hcl, st⟩
  · cases hv
    obtain ⟨k1, k2, k3⟩ := vx_keep h0 e1 hS hA hf hL hF
    obtain ⟨t2, a1, b1⟩ := kk r u t T'.heap (locs ++ L) e1.symm (by rw [← e2]; exact X'.warmed.alike) hp hb k1 k2 k3 T' rfl X'
    exact ⟨t2, st t2 a1, b1⟩
  · obtain ⟨k1, k2, k3⟩ := vx_keep h0 e1 hS hAX hf hL hF
    obtain ⟨t2, a1, b1⟩ := kx E ce q u t T'.heap (locs ++ L) e1.symm (by rw [← e2]; exact X'.warmed.alike) hp hb k1 k2 k3 (by rw [e1]; exact hce) hcv hcl T' rfl X'
    exact ⟨t2, st.trans a1, b1⟩
theorem vx_calld {S SX : Type} {post : UInt64 → S → Prop} {px : SX → Prop} {B : S → State → Prop} {BX : String → SX → State → Prop} {AX : Nat → Prop} (hr : vx_Run p l e R s m args below meth c H locs cells slots mc ms (F0 m pc ls st0) rest (va_Qd post B A1 a) (vx_X px BX AX) free) (hS : va_S A0 H0 H locs) (hA : ∀ q, q < H.size → A1 q → A0 q) (hf : ∀ q, free q → A0 q) (hAX : ∀ q, q < H.size → AX q → A0 q)
    (kx : ∀ (E : String) (ce : Cell) (q9 : Addr) (u : SX) (t : State) (H1 : Heap) (locs1 : List Loc), t.heap = H1 → s.vm.Alike t.vm → px u → BX E u t → H.size ≤ H1.size → (∀ q : Nat, q < H.size → ¬ AX q → H1[q]? = H[q]?) → va_S A0 H0 H1 locs1 → H1[q9]? = some ce → ce.vm = .none → s.vm.findClass E = some ce.cls → vx_W p l e R s m args below meth c H1 locs1 (cells + mc) (slots + ms) Q (F0 m pc ls rest) q9)
    (kk : ∀ (r : UInt64) (u : S) (t : State) (H1 : Heap) (locs1 : List Loc), t.heap = H1 → s.vm.Alike t.vm → post r u → B u t → H.size ≤ H1.size → (∀ q : Nat, q < H.size → ¬ A1 q → H1[q]? = H[q]?) → va_S A0 H0 H1 locs1 → W p l e R s m args below meth c H1 locs1 (cells + mc) (slots + ms) Q (F0 m (pc + 3) ls (.double r :: rest))) : W p l e R s m args below meth c H locs cells slots Q (F0 m pc ls st0) := by
  intro T hT X
  rcases hr T hT X with ⟨v, st₀, t, T', L, h0, X', hL, e1, e2, ⟨⟨r, u, hv, hp, hb⟩, hF⟩, st⟩ | ⟨q, st₀, t, T', L, E, ce, h0, X', hL, e1, e2, ⟨u, hp, hb, hF⟩, hce, hcv, hcl, st⟩
  · cases hv
    obtain ⟨k1, k2, k3⟩ := vx_keep h0 e1 hS hA hf hL hF
    obtain ⟨t2, a1, b1⟩ := kk r u t T'.heap (locs ++ L) e1.symm (by rw [← e2]; exact X'.warmed.alike) hp hb k1 k2 k3 T' rfl X'
    exact ⟨t2, st t2 a1, b1⟩
  · obtain ⟨k1, k2, k3⟩ := vx_keep h0 e1 hS hAX hf hL hF
    obtain ⟨t2, a1, b1⟩ := kx E ce q u t T'.heap (locs ++ L) e1.symm (by rw [← e2]; exact X'.warmed.alike) hp hb k1 k2 k3 (by rw [e1]; exact hce) hcv hcl T' rfl X'
    exact ⟨t2, st.trans a1, b1⟩
theorem vx_callv {S SX : Type} {post : S → Prop} {px : SX → Prop} {B : S → State → Prop} {BX : String → SX → State → Prop} {AX : Nat → Prop} (hr : vx_Run p l e R s m args below meth c H locs cells slots mc ms (F0 m pc ls st0) rest (va_Qv post B A1 a) (vx_X px BX AX) free) (hS : va_S A0 H0 H locs) (hA : ∀ q, q < H.size → A1 q → A0 q) (hf : ∀ q, free q → A0 q) (hAX : ∀ q, q < H.size → AX q → A0 q)
    (kx : ∀ (E : String) (ce : Cell) (q9 : Addr) (u : SX) (t : State) (H1 : Heap) (locs1 : List Loc), t.heap = H1 → s.vm.Alike t.vm → px u → BX E u t → H.size ≤ H1.size → (∀ q : Nat, q < H.size → ¬ AX q → H1[q]? = H[q]?) → va_S A0 H0 H1 locs1 → H1[q9]? = some ce → ce.vm = .none → s.vm.findClass E = some ce.cls → vx_W p l e R s m args below meth c H1 locs1 (cells + mc) (slots + ms) Q (F0 m pc ls rest) q9)
    (kk : ∀ (u : S) (t : State) (H1 : Heap) (locs1 : List Loc), t.heap = H1 → s.vm.Alike t.vm → post u → B u t → H.size ≤ H1.size → (∀ q : Nat, q < H.size → ¬ A1 q → H1[q]? = H[q]?) → va_S A0 H0 H1 locs1 → W p l e R s m args below meth c H1 locs1 (cells + mc) (slots + ms) Q (F0 m (pc + 3) ls (rest))) : W p l e R s m args below meth c H locs cells slots Q (F0 m pc ls st0) := by
  intro T hT X
  rcases hr T hT X with ⟨v, st₀, t, T', L, h0, X', hL, e1, e2, ⟨⟨u, hv, hp, hb⟩, hF⟩, st⟩ | ⟨q, st₀, t, T', L, E, ce, h0, X', hL, e1, e2, ⟨u, hp, hb, hF⟩, hce, hcv, hcl, st⟩
  · cases hv
    obtain ⟨k1, k2, k3⟩ := vx_keep h0 e1 hS hA hf hL hF
    obtain ⟨t2, a1, b1⟩ := kk u t T'.heap (locs ++ L) e1.symm (by rw [← e2]; exact X'.warmed.alike) hp hb k1 k2 k3 T' rfl X'
    exact ⟨t2, st t2 a1, b1⟩
  · obtain ⟨k1, k2, k3⟩ := vx_keep h0 e1 hS hAX hf hL hF
    obtain ⟨t2, a1, b1⟩ := kx E ce q u t T'.heap (locs ++ L) e1.symm (by rw [← e2]; exact X'.warmed.alike) hp hb k1 k2 k3 (by rw [e1]; exact hce) hcv hcl T' rfl X'
    exact ⟨t2, st.trans a1, b1⟩
end Rows
section Ends
variable {p : Program} {l : Launch} {e : Env} {R : Room} {s : State} {m : MethodId} {args : Array Value} {below : List Frame} {meth : Method} {c : Code} {H : Heap} {locs : List Loc} {cells slots : Nat} {Q : State → Prop}
variable {mc ms : Nat} {free : Addr → Prop} {A0 A1 : Nat → Prop} {H0 : Heap} {a : Array Value} {ls : Array Slot} {st0 rest : List Value}
variable {Qc : Array Value → State → Outcome → State → Prop} {XC : String → State → State → Prop}
/-- what a body that may throw owes at its end -/
def vx_MQ (below : List Frame) (Qc : Array Value → State → Outcome → State → Prop) (XC : String → State → State → Prop) (a : Array Value) (s : State) (mc ms : Nat) (free : Addr → Prop) : State → Prop := fun t =>
  ∃ o, t.status = .running ∧ Ended t below o ∧ vx_Q Qc XC mc ms free a s o t
theorem vx_ret {g : JFrame} {mc ms : Nat} (k : W p l e R s m args below meth c H locs cells slots (MQ below Qc args s mc ms free) g) : W p l e R s m args below meth c H locs cells slots (vx_MQ below Qc XC args s mc ms free) g := by
  intro T hT X
  obtain ⟨t, a1, o, b1, b2, b3, b4⟩ := k T hT X
  exact ⟨t, a1, o, b1, b2, Or.inl ⟨b3, b4⟩⟩
/-- not caught here: it goes on to the caller -/
theorem vx_widen {g : JFrame} {q : Addr} {k n : Nat} (h1 : cells ≤ k) (h2 : slots ≤ n) (kk : vx_W p l e R s m args below meth c H locs k n Q g q) : vx_W p l e R s m args below meth c H locs cells slots Q g q := fun T hT X => kk T hT (stand_widen X h1 h2)
theorem vx_out {pc : Nat} {E : String} {ce : Cell} {q : Addr} {mc ms : Nat} (hout : ∀ x ∈ c.exceptionTable.toList, covers x pc = false) (hlocks : meth.locks = false) (hcell : H[q]? = some ce) (hv : ce.vm = .none) (hcl : s.vm.findClass E = some ce.cls)
    (hx : ∀ t : State, t.heap = H → s.vm.Alike t.vm → XC E s t) (hf : ∀ z ∈ locs, free z.base) (hc : cells ≤ mc) (hs : slots ≤ ms) :
    vx_W p l e R s m args below meth c H locs cells slots (vx_MQ below Qc XC args s mc ms free) (F0 m pc ls rest) q := by
  intro T hT X
  obtain ⟨st1, hrun, hend, hW, hsm⟩ := X.leaveThrown q (g := F0 m pc ls rest) rfl rfl rfl hout hlocks
  have hcell9 : (T.setFrames (.throwing q :: below)).heap[q]? = some ce := by
    show T.heap[q]? = some ce
    rw [hT]; exact hcell
  exact ⟨_, st1, .threw q, hrun, hend, Or.inr ⟨q, rfl, E, ce, locs, hx _ hT hW.alike, hcell9, hv, hcl, hW, hsm.mono hc hs, hf⟩⟩
theorem vx_frame {U : State} {k n : Nat} (h : s.sameButNew ({ U with vm := s.vm } : State) locs k n) : s.heap.size ≤ U.heap.size ∧ ∀ q : Nat, q < s.heap.size → (∀ z ∈ locs, z.base ≠ q) → U.heap[q]? = s.heap[q]? := by
  obtain ⟨-, h2, -, -, -, h6⟩ := h
  refine ⟨h2, fun q hq hz => ?_⟩
  obtain ⟨c9, e1, e2, e3, e4⟩ := h6 q _ (Array.getElem?_eq_getElem hq)
  have hs : c9.slots = (s.heap[q]).slots := Array.ext_getElem? fun i => e4 i fun hm => hz _ hm rfl
  have h9 : c9 = s.heap[q] := by
    rw [hs] at e2
    exact e2
  have e5 : U.heap[q]? = some c9 := e1
  rw [e5, h9, Array.getElem?_eq_getElem hq]
/-- the words of a throw but the four that speak of the heap -/
def vx_no (w : Cond) : Bool := decide (w ≠ .isRef (.static Bundle.tN "UNASSIGNED_STACK" Bundle.steD)) && decide (w ≠ .isRef (.static Bundle.tN "SUPPRESSED_SENTINEL" Bundle.listD)) && decide (w ≠ .laysStatic Bundle.tN "UNASSIGNED_STACK" Bundle.steD) && decide (w ≠ .laysStatic Bundle.tN "SUPPRESSED_SENTINEL" Bundle.listD)
def vx_at0 (own : String) (ic : Nat) (X : String) (names : List String) : List Cond := (Bundle.ownAtoms0 own ic X names).filter vx_no
def vx_atS (own : String) (ic : Nat) (X : String) (names : List String) : List Cond := (Bundle.ownAtoms own ic X names).filter vx_no
/-- a word that the tables alone decide, or a good one -/
def vx_ot (w : Cond) : Bool := w.onTables || goodWord w
theorem vx_ot_at {args a' : Array Value} {s U : State} {w : Cond} (hW : s.WarmedH U.vm) (hvm : s.vm = U.vm) (hg : vx_ot w = true) (h : w.before args s = true) : w.before a' U = true := by
  simp only [vx_ot, Bool.or_eq_true] at hg
  rcases hg with hg | hg
  · exact va_tabs hg hvm h
  · exact word_at hW (good_of_word hg) h
/-- a list's words: the good ones out of the method's own list, the others by premises of their own -/
theorem vx_hat {args : Array Value} {s : State} {L B : List Cond} (h1 : ∀ w ∈ L.filter goodWord, w.before args s = true) (h2 : ∀ w ∈ L.filter (fun w => !goodWord w), w ∈ B) (h3 : ∀ w ∈ B, w.before args s = true) : ∀ w ∈ L, w.before args s = true := by
  intro w hw
  by_cases g : goodWord w = true
  · exact h1 w (List.mem_filter.mpr ⟨hw, g⟩)
  · refine h3 w (h2 w (List.mem_filter.mpr ⟨hw, ?_⟩))
    show (!goodWord w) = true
    cases hgw : goodWord w
    · rfl
    · exact absurd hgw g
theorem vx_c {args : Array Value} {s : State} {w : Cond} {B : List Cond} (h : w.before args s = true) (t : ∀ w ∈ B, w.before args s = true) : ∀ w' ∈ w :: B, w'.before args s = true := fun w' h' => (List.mem_cons.mp h').elim (fun e => by rw [e]; exact h) (t w')
theorem vx_n {args : Array Value} {s : State} : ∀ w ∈ ([] : List Cond), w.before args s = true := fun _ h => nomatch h
theorem vx_own {args : Array Value} {s : State} {L : List Cond} (h1 : ∀ w ∈ L.filter vx_no, w.before args s = true)
    (hU : (Cond.isRef (.static Bundle.tN "UNASSIGNED_STACK" Bundle.steD)).before args s = true) (hN : (Cond.isRef (.static Bundle.tN "SUPPRESSED_SENTINEL" Bundle.listD)).before args s = true)
    (lU : (Cond.laysStatic Bundle.tN "UNASSIGNED_STACK" Bundle.steD).before args s = true) (lN : (Cond.laysStatic Bundle.tN "SUPPRESSED_SENTINEL" Bundle.listD).before args s = true) : ∀ w ∈ L, w.before args s = true := by
  intro w hw
  by_cases e1 : w = .isRef (.static Bundle.tN "UNASSIGNED_STACK" Bundle.steD)
  · rw [e1]; exact hU
  · by_cases e2 : w = .isRef (.static Bundle.tN "SUPPRESSED_SENTINEL" Bundle.listD)
    · rw [e2]; exact hN
    · by_cases e3 : w = .laysStatic Bundle.tN "UNASSIGNED_STACK" Bundle.steD
      · rw [e3]; exact lU
      · by_cases e4 : w = .laysStatic Bundle.tN "SUPPRESSED_SENTINEL" Bundle.listD
        · rw [e4]; exact lN
        · exact h1 w (List.mem_filter.mpr ⟨hw, by unfold vx_no; rw [decide_eq_true e1, decide_eq_true e2, decide_eq_true e3, decide_eq_true e4]; rfl⟩)
/-- where a static field lies, its class's statics cell in H -/
def vx_L (C n d : String) (A : Nat → Prop) (U : State) (H : Heap) : Prop := ∃ (c : ClassId) (k : Class) (i : Nat) (f : Field) (a : Nat) (cell : Cell), U.vm.findClass C = some c ∧ U.fieldFound? C n d = some (c, k, i, f) ∧ f.isStatic = true ∧ k.statics = some a ∧ H[a]? = some cell ∧ cell.vm.isStatics = true ∧ cell.cls = c ∧ f.slot < cell.slots.size ∧ k.staticTypes[f.slot]? = some f.type ∧ ¬ A a
theorem vx_L.moved {C n d : String} {A : Nat → Prop} {u U : State} {H : Heap} (hvm : u.vm.Alike U.vm) (h : vx_L C n d A u H) : vx_L C n d A U H := by
  obtain ⟨c, k, i, f, a, cell, h1, h2, h3, h4, h5, h6, h7, h8, h9, h10⟩ := h
  obtain ⟨k', hi', he⟩ := State.fieldFound?_setVm hvm h2
  exact ⟨c, k', i, f, a, cell, by rw [hvm.findClass]; exact h1, hi', h3, by rw [he]; exact h4, h5, h6, h7, h8, by rw [he]; exact h9, h10⟩
theorem vx_L.kept {C n d : String} {A : Nat → Prop} {U : State} {H H1 : Heap} (h : vx_L C n d A U H) (hq : ∀ a : Nat, a < H.size → ¬ A a → H1[a]? = H[a]?) : vx_L C n d A U H1 := by
  obtain ⟨c, k, i, f, a, cell, h1, h2, h3, h4, h5, h6, h7, h8, h9, h10⟩ := h
  exact ⟨c, k, i, f, a, cell, h1, h2, h3, h4, by rw [hq a (Array.getElem?_eq_some_iff.mp h5).1 h10]; exact h5, h6, h7, h8, h9, h10⟩
theorem vx_L.narrow {C n d : String} {A B : Nat → Prop} {U : State} {H : Heap} (h : vx_L C n d A U H) (hAB : ∀ q, B q → A q) : vx_L C n d B U H := by
  obtain ⟨c, k, i, f, a, cell, h1, h2, h3, h4, h5, h6, h7, h8, h9, h10⟩ := h
  exact ⟨c, k, i, f, a, cell, h1, h2, h3, h4, h5, h6, h7, h8, h9, fun z => h10 (hAB _ z)⟩
theorem vx_L.word {C n d : String} {A : Nat → Prop} {s : State} {args : Array Value} (h : vx_L C n d A s s.heap) : (Cond.laysStatic C n d).before args s = true := by
  obtain ⟨c, k, i, f, a, cell, h1, h2, h3, h4, h5, h6, h7, h8, h9, -⟩ := h
  show (Cond.laysStatic C n d).holds args s none s [] = true
  exact Cond.laysStatic_of h1 h2 h3 h4 h5 h6 h7 h8 h9
/-- .. and what it holds: null or some reference -/
def vx_Zq (C n d : String) (A : Nat → Prop) (U : State) (H : Heap) : Prop := va_Zq C n d A U H ∧ vx_L C n d A U H
theorem vx_Zq.moved {C n d : String} {A : Nat → Prop} {u U : State} {H : Heap} (hvm : u.vm.Alike U.vm) (h : vx_Zq C n d A u H) : vx_Zq C n d A U H := ⟨va_Zq.moved hvm h.1, vx_L.moved hvm h.2⟩
theorem vx_Zq.kept {C n d : String} {A : Nat → Prop} {U : State} {H H1 : Heap} (h : vx_Zq C n d A U H) (hq : ∀ a : Nat, a < H.size → ¬ A a → H1[a]? = H[a]?) : vx_Zq C n d A U H1 := ⟨va_Zq.kept h.1 hq, vx_L.kept h.2 hq⟩
theorem vx_Zq.narrow {C n d : String} {A B : Nat → Prop} {U : State} {H : Heap} (h : vx_Zq C n d A U H) (hAB : ∀ q, B q → A q) : vx_Zq C n d B U H := ⟨va_Zq.narrow h.1 hAB, vx_L.narrow h.2 hAB⟩
theorem vx_Zqof {args : Array Value} {s : State} {C n d : String} {A : Nat → Prop} (hl : (Cond.laysStatic C n d).before args s = true) (hini : (Cond.initialized C).before args s = true) (h : (Cond.isRef (.static C n d)).before args s = true) (hA : ∀ a : Nat, a < s.heap.size → ¬ A a) : vx_Zq C n d A s s.heap := by
  refine ⟨va_Zqof hl hini h hA, ?_⟩
  obtain ⟨c, k, i, f, a, cell, h1, h2, h3, h4, h5, h6, h7, h8, h9⟩ := Cond.laysStatic_spec hl
  exact ⟨c, k, i, f, a, cell, h1, h2, h3, h4, h5, h6, h7, h8, h9, hA a (Array.getElem?_eq_some_iff.mp h5).1⟩
theorem vx_isRef {C n d : String} {v : Value} {A : Nat → Prop} {s : State} {args : Array Value} (h : va_Z C n d v A s s.heap) (hv : v.isRef = true) : (Cond.isRef (.static C n d)).before args s = true := by
  obtain ⟨cf, kf, fi, f, a, cell, h1, h2, h3, h4, h5, h6, h7, -⟩ := h
  have he : (Term.static C n d).eval args s none [] s = some v := by
    simp [Term.eval, State.fieldNamed?, h1, h2, h4, h5, h6, h7]
  simp only [Cond.before, Cond.holds, Cond.value, he]
  cases v <;> simp_all [Value.isRef]
theorem vx_isRefq {C n d : String} {A : Nat → Prop} {s : State} {args : Array Value} (h : va_Zq C n d A s s.heap) : (Cond.isRef (.static C n d)).before args s = true := by
  rcases h with h | ⟨t, h⟩
  · exact vx_isRef h rfl
  · exact vx_isRef h rfl
/-- the same frame, seen from here: as if the method were called anew in this heap -/
theorem vx_rebase {T : State} (X : Stand p l e R s m args below meth c T locs cells slots) {R' : Room} (hf : R'.frames ≤ R.frames) (hl : R'.locals ≤ R.locals) (hc : cells + R'.cells ≤ R.cells) (hs : slots + R'.slots ≤ R.slots) :
    Stand p l e R' ((T.setVm s.vm).setFrames (.invoking m args :: below)) m args below meth c T [] 0 0 := by
  have htop : (T.setVm s.vm).topJava?.isSome := X.here.top
  have hF : ((T.setVm s.vm).setFrames (.invoking m args :: below)).frames = .invoking m args :: below := State.frames_setFrames _ (State.cur_lt_of_top htop)
  obtain ⟨g₀, hg0⟩ := Option.isSome_iff_exists.mp htop
  obtain ⟨r, hr⟩ := State.topJava?_eq_some.mp hg0
  have hl9 : e.platform.stackLimits (T.setVm s.vm).me = e.platform.stackLimits s.me := X.limits
  have hb9 : (T.setVm s.vm).me.stackBytes = s.me.stackBytes := X.bytes
  refine ⟨X.admits, X.cas, X.clock, hF, ?_, X.hears, X.method, X.code, X.here, X.tail, X.warmed, ?_, ?_, ?_⟩
  · have h := X.room
    have hU : ((T.setVm s.vm).setFrames (.invoking m args :: below)).localsInUse = s.localsInUse := by
      rw [State.localsInUse_invoking hF (meth := meth) (c := c) X.method X.code, State.localsInUse_invoking X.frames X.method X.code]
    simp only [State.hasRoom, Bool.and_eq_true, decide_eq_true_eq] at h ⊢
    obtain ⟨⟨⟨⟨h1, h2, h3, h4, h5, h6⟩, h7⟩, h8⟩, h9⟩ := h
    rw [X.frames, List.length_cons] at h2 h3
    have q1 := X.heapSize
    have q2 := X.used
    simp only [hF, hU, List.length_cons, State.stackLimits_setFrames, State.stackBytes_setFrames, hl9, hb9]
    refine ⟨⟨⟨⟨by omega, by omega, by omega, by omega, by omega, h6⟩, ?_⟩, ?_⟩, X.book⟩
    · show T.heap.size + R'.cells ≤ e.platform.maxCells
      omega
    · show T.slotsUsed + R'.slots ≤ e.platform.maxSlots
      omega
  · rw [State.stackLimits_setFrames]; rfl
  · rw [State.stackBytes_setFrames]; rfl
  · refine ⟨?_, Nat.le_refl _, Nat.le_refl _, ?_, ?_, fun a c9 h9 => ⟨c9, h9, rfl, rfl, fun _ _ => rfl⟩⟩
    · obtain ⟨t, ht, -⟩ := State.frames_cons hr
      show T.setVm s.vm = { ((T.setVm s.vm).setFrames (.invoking m args :: below)).setFrames (T.setVm s.vm).frames with heap := T.heap, slotsUsed := T.slotsUsed }
      rw [State.setFrames_setFrames, State.setFrames_self ht]
      rfl
    · show T.slotsUsed = T.slotsUsed + ((T.heap.toList.drop T.heap.size).map (·.slots.size)).sum
      rw [List.drop_eq_nil_of_le (Nat.le_of_eq Array.length_toList)]
      rfl
    · show ((T.heap.toList.drop T.heap.size).map (·.slots.size)).sum ≤ 0
      rw [List.drop_eq_nil_of_le (Nat.le_of_eq Array.length_toList)]
      exact Nat.le_refl _
/-- 'throw new E()': new; dup; invokespecial; athrow -/
theorem vx_throw0 {cc : ByteArray} {pc : Nat} (hexec : p.tables.exec = Jvm.exec) (hb : c.code = cc) (hl : l.stackTraces = false) {own cls : String} {names : List String} {ik ic mc ms : Nat} {A : Nat → Prop}
    (hown : s.vm.findClass own = some m.cls) (hcls : Bundle.fit cls = true) (hnames : ∀ n ∈ names, Bundle.fit n = true)
    (hk : (Cond.classLink own ik cls).before args s = true) (hini : (Cond.initialized cls).before args s = true) (hat : ∀ w ∈ vx_at0 own ic cls names, w.before args s = true)
    (hgood : ∀ w ∈ Cond.classLink own ik cls :: Cond.initialized cls :: vx_at0 own ic cls names, vx_ot w = true)
    (hU : vx_Zq Bundle.tN "UNASSIGNED_STACK" Bundle.steD A s s.heap) (hN : vx_Zq Bundle.tN "SUPPRESSED_SENTINEL" Bundle.listD A s s.heap) (hS : va_S A s.heap H locs) (hsize : ls.size = c.maxLocals)
    (d0 : decode cc pc = .ok (.new ik, 3)) (d3 : decode cc (pc + 3) = .ok (.dup, 1)) (d4 : decode cc (pc + 4) = .ok (.invokespecial ic, 3)) (d7 : decode cc (pc + 7) = .ok (.athrow, 1))
    (hout : ∀ x ∈ c.exceptionTable.toList, covers x (pc + 7) = false)
    (hRframes : names.length + 3 < R.frames) (hRlocals : (rest.map fun v => v.category).sum + (13 * (names.length + 1) + 42) ≤ R.locals) (hRcells : cells + 1 ≤ R.cells) (hRslots : slots + 6 ≤ R.slots) (hlocks : meth.locks = false)
    (hx : ∀ t : State, s.vm.Alike t.vm → H.size ≤ t.heap.size → (∀ q : Nat, q < H.size → t.heap[q]? = H[q]?) → XC cls s t)
    (hf : ∀ z ∈ locs, free z.base) (hc : cells + 1 ≤ mc) (hs : slots + 6 ≤ ms) :
    W p l e R s m args below meth c H locs cells slots (vx_MQ below Qc XC args s mc ms free) (F0 m pc ls rest) := by
  intro T hT X
  have htr : e.platform.stackTraces = false := (show e.platform.stackTraces = l.stackTraces by rw [X.admits.platform]).trans hl
  have Y := vx_rebase X (R' := { frames := R.frames, locals := R.locals, cells := 1, slots := 6 }) (Nat.le_refl _) (Nat.le_refl _) hRcells hRslots
  obtain ⟨s', hA⟩ : ∃ z, z = (T.setVm s.vm).setFrames (.invoking m args :: below) := ⟨_, rfl⟩
  rw [← hA] at Y
  have hvm : s'.vm = s.vm := by rw [hA]; rfl
  have hhp : s'.heap = H := by rw [hA]; exact hT
  have hW0 : s.WarmedH s'.vm := by rw [hvm]; exact State.WarmedH.refl s
  have hat' : ∀ w ∈ vx_at0 own ic cls names, w.before args s' = true := fun w hw => vx_ot_at hW0 hvm.symm (hgood w (List.mem_cons_of_mem _ (List.mem_cons_of_mem _ hw))) (hat w hw)
  have hk' : (Cond.classLink own ik cls).before args s' = true := vx_ot_at hW0 hvm.symm (hgood _ List.mem_cons_self) hk
  have hini' : (Cond.initialized cls).before args s' = true := vx_ot_at hW0 hvm.symm (hgood _ (List.mem_cons_of_mem _ List.mem_cons_self)) hini
  have hU' : vx_Zq Bundle.tN "UNASSIGNED_STACK" Bundle.steD A s' s'.heap := by rw [hhp]; exact vx_Zq.moved hW0.alike (hU.kept hS.2.1)
  have hN' : vx_Zq Bundle.tN "SUPPRESSED_SENTINEL" Bundle.listD A s' s'.heap := by rw [hhp]; exact vx_Zq.moved hW0.alike (hN.kept hS.2.1)
  have h : ∀ w ∈ Bundle.ownAtoms0 own ic cls names, w.before args s' = true := vx_own hat' (vx_isRefq hU'.1) (vx_isRefq hN'.1) hU'.2.word hN'.2.word
  have hown' : s'.vm.findClass own = some m.cls := by rw [hvm]; exact hown
  have hins : (Cond.instantiable cls 6).before args s' = true := h _ (by simp [Bundle.ownAtoms0])
  obtain ⟨vm₁, cX, kX, hfX, hkX, -, -, X₁, st1⟩ := Y.newCold hexec (own := own) (C := cls) (index := ik) (n := 6) hown' hk' hins hini'
    (g := F0 m pc ls rest) rfl (by rw [hb]; exact d0) (Nat.le_refl _) (Nat.le_refl _)
  generalize hT1 : (T.setVm vm₁).pushCell { cls := cX, slots := kX.instanceTypes.map defaultValue, vm := .none } = T1 at X₁ st1
  have hcat : (Value.ref T.heap.size).category = 1 := rfl
  have hcellA : T1.heap[T.heap.size]? = some (freshCell cX kX) := by rw [← hT1]; exact State.heap_pushCell_size _ _
  have d3' : decode c.code (pc + 3) = .ok (.dup, 1) := by rw [hb]; exact d3
  obtain ⟨U, hsteps, hrun, hend, hW, hsame, ce, hce, hO⟩ := X₁.ctorThrow0 hexec htr (own := own) (cls := cls) (names := names) (ic := ic) hown' hcls hnames h (fun x hx => nomatch hx) hfX hkX hcellA (by rw [hhp, hT]; exact Nat.le_refl _)
    (g := { method := m, pc := pc + 4, locals := ls, stack := .ref T.heap.size :: .ref T.heap.size :: rest, locked := none }) rfl hsize rfl rfl (rest := rest) rfl
    (by rw [hb]; exact d4) (by rw [hb]; exact d7) hout hRframes (by simp only [List.map_cons, List.sum_cons, hcat]; omega) hlocks
  obtain ⟨f1, f2⟩ := vx_frame hsame
  rw [hhp] at f1 f2
  have hWs : s.WarmedH U.vm := State.WarmedH.trans hW0 hW
  have hcl : s.vm.findClass cls = some ce.cls := by
    have h9 := hO.cls
    rw [hvm] at h9
    exact h9
  have hall : s.sameButNew ({ U with vm := s.vm } : State) locs mc ms := by
    subst hA
    obtain ⟨e1, e2⟩ := hsame
    rw [State.setFrames_setFrames] at e1
    have h2 : (T.setVm s.vm).sameButNew ({ U with vm := s.vm } : State) [] (0 + 1) (0 + 6) := ⟨e1, e2⟩
    have h3 := X.same.trans h2
    rw [List.append_nil] at h3
    exact h3.mono hc hs
  refine ⟨U, ?_, .threw T.heap.size, hrun, hend, Or.inr ⟨T.heap.size, rfl, cls, ce, locs, hx U hWs.alike f1 (fun q hq => f2 q hq (fun z hz => nomatch hz)), hce, hO.vm, hcl, hWs, hall, hf⟩⟩
  refine st1 _ ?_
  show Steps p.tables e below (T1.setTop { method := m, pc := pc + 3, locals := ls, stack := .ref T.heap.size :: rest, locked := none }) _
  jvm_step X₁.here [X₁.here.top, hexec, d3', Value.category]
  exact hsteps
/-- 'throw new E("text")': new; dup; ldc; invokespecial; athrow -/
theorem vx_throwS {cc : ByteArray} {pc : Nat} (hexec : p.tables.exec = Jvm.exec) (hb : c.code = cc) (hl : l.stackTraces = false) {own cls text : String} {names : List String} {ik is ic mc ms sa : Nat} {A : Nat → Prop}
    (hown : s.vm.findClass own = some m.cls) (hcls : Bundle.fit cls = true) (hnames : ∀ n ∈ names, Bundle.fit n = true)
    (hk : (Cond.classLink own ik cls).before args s = true) (hini : (Cond.initialized cls).before args s = true) (hstr : vk_R own is text sa s) (hat : ∀ w ∈ vx_atS own ic cls names, w.before args s = true)
    (hgood : ∀ w ∈ Cond.classLink own ik cls :: Cond.initialized cls :: vx_atS own ic cls names, vx_ot w = true)
    (hU : vx_Zq Bundle.tN "UNASSIGNED_STACK" Bundle.steD A s s.heap) (hN : vx_Zq Bundle.tN "SUPPRESSED_SENTINEL" Bundle.listD A s s.heap) (hS : va_S A s.heap H locs) (hsize : ls.size = c.maxLocals)
    (d0 : decode cc pc = .ok (.new ik, 3)) (d3 : decode cc (pc + 3) = .ok (.dup, 1)) (d4 : decode cc (pc + 4) = .ok (.ldc is, 2)) (d6 : decode cc (pc + 6) = .ok (.invokespecial ic, 3)) (d9 : decode cc (pc + 9) = .ok (.athrow, 1))
    (hout : ∀ x ∈ c.exceptionTable.toList, covers x (pc + 9) = false)
    (hRframes : names.length + 3 < R.frames) (hRlocals : (rest.map fun v => v.category).sum + (13 * (names.length + 1) + 43) ≤ R.locals) (hRcells : cells + 1 ≤ R.cells) (hRslots : slots + 6 ≤ R.slots) (hlocks : meth.locks = false)
    (hx : ∀ t : State, s.vm.Alike t.vm → H.size ≤ t.heap.size → (∀ q : Nat, q < H.size → t.heap[q]? = H[q]?) → XC cls s t)
    (hf : ∀ z ∈ locs, free z.base) (hc : cells + 1 ≤ mc) (hs : slots + 6 ≤ ms) :
    W p l e R s m args below meth c H locs cells slots (vx_MQ below Qc XC args s mc ms free) (F0 m pc ls rest) := by
  intro T hT X
  have htr : e.platform.stackTraces = false := (show e.platform.stackTraces = l.stackTraces by rw [X.admits.platform]).trans hl
  have Y := vx_rebase X (R' := { frames := R.frames, locals := R.locals, cells := 1, slots := 6 }) (Nat.le_refl _) (Nat.le_refl _) hRcells hRslots
  obtain ⟨s', hA⟩ : ∃ z, z = (T.setVm s.vm).setFrames (.invoking m args :: below) := ⟨_, rfl⟩
  rw [← hA] at Y
  have hvm : s'.vm = s.vm := by rw [hA]; rfl
  have hhp : s'.heap = H := by rw [hA]; exact hT
  have hW0 : s.WarmedH s'.vm := by rw [hvm]; exact State.WarmedH.refl s
  have hat' : ∀ w ∈ vx_atS own ic cls names, w.before args s' = true := fun w hw => vx_ot_at hW0 hvm.symm (hgood w (List.mem_cons_of_mem _ (List.mem_cons_of_mem _ hw))) (hat w hw)
  have hk' : (Cond.classLink own ik cls).before args s' = true := vx_ot_at hW0 hvm.symm (hgood _ List.mem_cons_self) hk
  have hini' : (Cond.initialized cls).before args s' = true := vx_ot_at hW0 hvm.symm (hgood _ (List.mem_cons_of_mem _ List.mem_cons_self)) hini
  have hU' : vx_Zq Bundle.tN "UNASSIGNED_STACK" Bundle.steD A s' s'.heap := by rw [hhp]; exact vx_Zq.moved hW0.alike (hU.kept hS.2.1)
  have hN' : vx_Zq Bundle.tN "SUPPRESSED_SENTINEL" Bundle.listD A s' s'.heap := by rw [hhp]; exact vx_Zq.moved hW0.alike (hN.kept hS.2.1)
  have h : ∀ w ∈ Bundle.ownAtoms own ic cls names, w.before args s' = true := vx_own hat' (vx_isRefq hU'.1) (vx_isRefq hN'.1) hU'.2.word hN'.2.word
  have hown' : s'.vm.findClass own = some m.cls := by rw [hvm]; exact hown
  have hins : (Cond.instantiable cls 6).before args s' = true := h _ (by simp [Bundle.ownAtoms])
  obtain ⟨vm₁, cX, kX, hfX, hkX, -, -, X₁, st1⟩ := Y.newCold hexec (own := own) (C := cls) (index := ik) (n := 6) hown' hk' hins hini'
    (g := F0 m pc ls rest) rfl (by rw [hb]; exact d0) (Nat.le_refl _) (Nat.le_refl _)
  generalize hT1 : (T.setVm vm₁).pushCell { cls := cX, slots := kX.instanceTypes.map defaultValue, vm := .none } = T1 at X₁ st1
  have hcat : (Value.ref T.heap.size).category = 1 := rfl
  have hcellA : T1.heap[T.heap.size]? = some (freshCell cX kX) := by rw [← hT1]; exact State.heap_pushCell_size _ _
  have d3' : decode c.code (pc + 3) = .ok (.dup, 1) := by rw [hb]; exact d3
  have d4' : decode c.code (pc + 4) = .ok (.ldc is, 2) := by rw [hb]; exact d4
  have hstr' : vk_R own is text sa s' := vk_R.warm hW0 hstr
  obtain ⟨U, hsteps, hrun, hend, hW, hsame, ce, hce, hO⟩ := X₁.ctorThrowS hexec htr (own := own) (cls := cls) (names := names) (ic := ic) hown' hcls hnames h (fun x hx => nomatch hx) hfX hkX hcellA (by rw [hhp, hT]; exact Nat.le_refl _) (msg := .ref sa) rfl
    (g := { method := m, pc := pc + 6, locals := ls, stack := .ref sa :: .ref T.heap.size :: .ref T.heap.size :: rest, locked := none }) rfl hsize rfl rfl (rest := rest) rfl
    (by rw [hb]; exact d6) (by rw [hb]; exact d9) hout hRframes (by simp only [List.map_cons, List.sum_cons, hcat]; omega) hlocks
  obtain ⟨f1, f2⟩ := vx_frame hsame
  rw [hhp] at f1 f2
  have hWs : s.WarmedH U.vm := State.WarmedH.trans hW0 hW
  have hcl : s.vm.findClass cls = some ce.cls := by
    have h9 := hO.cls
    rw [hvm] at h9
    exact h9
  have hall : s.sameButNew ({ U with vm := s.vm } : State) locs mc ms := by
    subst hA
    obtain ⟨e1, e2⟩ := hsame
    rw [State.setFrames_setFrames] at e1
    have h2 : (T.setVm s.vm).sameButNew ({ U with vm := s.vm } : State) [] (0 + 1) (0 + 6) := ⟨e1, e2⟩
    have h3 := X.same.trans h2
    rw [List.append_nil] at h3
    exact h3.mono hc hs
  refine ⟨U, ?_, .threw T.heap.size, hrun, hend, Or.inr ⟨T.heap.size, rfl, cls, ce, locs, hx U hWs.alike f1 (fun q hq => f2 q hq (fun z hz => nomatch hz)), hce, hO.vm, hcl, hWs, hall, hf⟩⟩
  refine st1 _ ?_
  show Steps p.tables e below (T1.setTop { method := m, pc := pc + 3, locals := ls, stack := .ref T.heap.size :: rest, locked := none }) _
  jvm_step X₁.here [X₁.here.top, hexec, d3', Value.category]
  exact X₁.ldcString hexec (own := own) (text := text) (index := is) (a := sa) hown' hstr'.1 hstr'.2
    (g := { method := m, pc := pc + 4, locals := ls, stack := .ref T.heap.size :: .ref T.heap.size :: rest, locked := none }) rfl d4' _ hsteps
/-- 'throw new E("text")', the text by a wide index -/
theorem vx_throwSW {cc : ByteArray} {pc : Nat} (hexec : p.tables.exec = Jvm.exec) (hb : c.code = cc) (hl : l.stackTraces = false) {own cls text : String} {names : List String} {ik is ic mc ms sa : Nat} {A : Nat → Prop}
    (hown : s.vm.findClass own = some m.cls) (hcls : Bundle.fit cls = true) (hnames : ∀ n ∈ names, Bundle.fit n = true)
    (hk : (Cond.classLink own ik cls).before args s = true) (hini : (Cond.initialized cls).before args s = true) (hstr : vk_R own is text sa s) (hat : ∀ w ∈ vx_atS own ic cls names, w.before args s = true)
    (hgood : ∀ w ∈ Cond.classLink own ik cls :: Cond.initialized cls :: vx_atS own ic cls names, vx_ot w = true)
    (hU : vx_Zq Bundle.tN "UNASSIGNED_STACK" Bundle.steD A s s.heap) (hN : vx_Zq Bundle.tN "SUPPRESSED_SENTINEL" Bundle.listD A s s.heap) (hS : va_S A s.heap H locs) (hsize : ls.size = c.maxLocals)
    (d0 : decode cc pc = .ok (.new ik, 3)) (d3 : decode cc (pc + 3) = .ok (.dup, 1)) (d4 : decode cc (pc + 4) = .ok (.ldc_w is, 3)) (d7 : decode cc (pc + 7) = .ok (.invokespecial ic, 3)) (d10 : decode cc (pc + 10) = .ok (.athrow, 1))
    (hout : ∀ x ∈ c.exceptionTable.toList, covers x (pc + 10) = false)
    (hRframes : names.length + 3 < R.frames) (hRlocals : (rest.map fun v => v.category).sum + (13 * (names.length + 1) + 43) ≤ R.locals) (hRcells : cells + 1 ≤ R.cells) (hRslots : slots + 6 ≤ R.slots) (hlocks : meth.locks = false)
    (hx : ∀ t : State, s.vm.Alike t.vm → H.size ≤ t.heap.size → (∀ q : Nat, q < H.size → t.heap[q]? = H[q]?) → XC cls s t)
    (hf : ∀ z ∈ locs, free z.base) (hc : cells + 1 ≤ mc) (hs : slots + 6 ≤ ms) :
    W p l e R s m args below meth c H locs cells slots (vx_MQ below Qc XC args s mc ms free) (F0 m pc ls rest) := by
  intro T hT X
  have htr : e.platform.stackTraces = false := (show e.platform.stackTraces = l.stackTraces by rw [X.admits.platform]).trans hl
  have Y := vx_rebase X (R' := { frames := R.frames, locals := R.locals, cells := 1, slots := 6 }) (Nat.le_refl _) (Nat.le_refl _) hRcells hRslots
  obtain ⟨s', hA⟩ : ∃ z, z = (T.setVm s.vm).setFrames (.invoking m args :: below) := ⟨_, rfl⟩
  rw [← hA] at Y
  have hvm : s'.vm = s.vm := by rw [hA]; rfl
  have hhp : s'.heap = H := by rw [hA]; exact hT
  have hW0 : s.WarmedH s'.vm := by rw [hvm]; exact State.WarmedH.refl s
  have hat' : ∀ w ∈ vx_atS own ic cls names, w.before args s' = true := fun w hw => vx_ot_at hW0 hvm.symm (hgood w (List.mem_cons_of_mem _ (List.mem_cons_of_mem _ hw))) (hat w hw)
  have hk' : (Cond.classLink own ik cls).before args s' = true := vx_ot_at hW0 hvm.symm (hgood _ List.mem_cons_self) hk
  have hini' : (Cond.initialized cls).before args s' = true := vx_ot_at hW0 hvm.symm (hgood _ (List.mem_cons_of_mem _ List.mem_cons_self)) hini
  have hU' : vx_Zq Bundle.tN "UNASSIGNED_STACK" Bundle.steD A s' s'.heap := by rw [hhp]; exact vx_Zq.moved hW0.alike (hU.kept hS.2.1)
  have hN' : vx_Zq Bundle.tN "SUPPRESSED_SENTINEL" Bundle.listD A s' s'.heap := by rw [hhp]; exact vx_Zq.moved hW0.alike (hN.kept hS.2.1)
  have h : ∀ w ∈ Bundle.ownAtoms own ic cls names, w.before args s' = true := vx_own hat' (vx_isRefq hU'.1) (vx_isRefq hN'.1) hU'.2.word hN'.2.word
  have hown' : s'.vm.findClass own = some m.cls := by rw [hvm]; exact hown
  have hins : (Cond.instantiable cls 6).before args s' = true := h _ (by simp [Bundle.ownAtoms])
  obtain ⟨vm₁, cX, kX, hfX, hkX, -, -, X₁, st1⟩ := Y.newCold hexec (own := own) (C := cls) (index := ik) (n := 6) hown' hk' hins hini'
    (g := F0 m pc ls rest) rfl (by rw [hb]; exact d0) (Nat.le_refl _) (Nat.le_refl _)
  generalize hT1 : (T.setVm vm₁).pushCell { cls := cX, slots := kX.instanceTypes.map defaultValue, vm := .none } = T1 at X₁ st1
  have hcat : (Value.ref T.heap.size).category = 1 := rfl
  have hcellA : T1.heap[T.heap.size]? = some (freshCell cX kX) := by rw [← hT1]; exact State.heap_pushCell_size _ _
  have d3' : decode c.code (pc + 3) = .ok (.dup, 1) := by rw [hb]; exact d3
  have d4' : decode c.code (pc + 4) = .ok (.ldc_w is, 3) := by rw [hb]; exact d4
  have hstr' : vk_R own is text sa s' := vk_R.warm hW0 hstr
  obtain ⟨U, hsteps, hrun, hend, hW, hsame, ce, hce, hO⟩ := X₁.ctorThrowS hexec htr (own := own) (cls := cls) (names := names) (ic := ic) hown' hcls hnames h (fun x hx => nomatch hx) hfX hkX hcellA (by rw [hhp, hT]; exact Nat.le_refl _) (msg := .ref sa) rfl
    (g := { method := m, pc := pc + 7, locals := ls, stack := .ref sa :: .ref T.heap.size :: .ref T.heap.size :: rest, locked := none }) rfl hsize rfl rfl (rest := rest) rfl
    (by rw [hb]; exact d7) (by rw [hb]; exact d10) hout hRframes (by simp only [List.map_cons, List.sum_cons, hcat]; omega) hlocks
  obtain ⟨f1, f2⟩ := vx_frame hsame
  rw [hhp] at f1 f2
  have hWs : s.WarmedH U.vm := State.WarmedH.trans hW0 hW
  have hcl : s.vm.findClass cls = some ce.cls := by
    have h9 := hO.cls
    rw [hvm] at h9
    exact h9
  have hall : s.sameButNew ({ U with vm := s.vm } : State) locs mc ms := by
    subst hA
    obtain ⟨e1, e2⟩ := hsame
    rw [State.setFrames_setFrames] at e1
    have h2 : (T.setVm s.vm).sameButNew ({ U with vm := s.vm } : State) [] (0 + 1) (0 + 6) := ⟨e1, e2⟩
    have h3 := X.same.trans h2
    rw [List.append_nil] at h3
    exact h3.mono hc hs
  refine ⟨U, ?_, .threw T.heap.size, hrun, hend, Or.inr ⟨T.heap.size, rfl, cls, ce, locs, hx U hWs.alike f1 (fun q hq => f2 q hq (fun z hz => nomatch hz)), hce, hO.vm, hcl, hWs, hall, hf⟩⟩
  refine st1 _ ?_
  show Steps p.tables e below (T1.setTop { method := m, pc := pc + 3, locals := ls, stack := .ref T.heap.size :: rest, locked := none }) _
  jvm_step X₁.here [X₁.here.top, hexec, d3', Value.category]
  exact X₁.ldcStringW hexec (own := own) (text := text) (index := is) (a := sa) hown' hstr'.1 hstr'.2
    (g := { method := m, pc := pc + 4, locals := ls, stack := .ref T.heap.size :: .ref T.heap.size :: rest, locked := none }) rfl d4' _ hsteps
end Ends
section Bodies
variable {l : Launch}
theorem vx_ofW {y : MethodName} {ws ws' : List Cond} {rm : Room} {Pc : Array Value → State → Prop} {Qc : Array Value → State → Outcome → State → Prop} {XC : String → State → State → Prop} {mc ms : Nat} {free : Addr → Prop} {cc : ByteArray} {maxL : Nat} {ret : Option FieldType}
    (hy : plainName y.cls = true) (hw : ws = Cond.code y cc maxL ret :: ws')
    (body : ∀ p e s m args below meth c s₁, BodyLoose p l y (headSpec ws rm) cc maxL ret e s m args below meth c s₁ → c.maxLocals = maxL → (∀ x ∈ c.exceptionTable.toList, False) → Pc args s →
      W p l e (headSpec ws rm).room s m args below meth c s.heap [] 0 0 (vx_MQ below Qc XC args s mc ms free) (entryFrame m args maxL)) : vx_Met l y ws rm Pc Qc XC mc ms free := by
  refine MetFree.of_bodyS (code := cc) (maxLocals := maxL) (ret := ret) hy ?_ ?_
  · intro args s m h hn
    obtain ⟨meth, c, h1, h2, h3, h4, h5, h6, -, -⟩ := Cond.code_spec hn (atoms_spec (ws := ws) h _ (by rw [hw]; exact List.mem_cons_self))
    exact ⟨meth, c, h1, h2, h3, h4, h5, h6⟩
  · intro p e s m args below meth c s₁ B hml hP _
    have hh0 : s₁.heap = s.heap := by rw [B.state]; rfl
    have ht : ∀ x ∈ c.exceptionTable.toList, False := by
      obtain ⟨meth9, c9, h1, h2, -, -, -, -, h7, -⟩ := Cond.code_spec B.named (atoms_spec (ws := ws) B.pre _ (by rw [hw]; exact List.mem_cons_self))
      cases Option.some.inj (h1.symm.trans B.method)
      cases Option.some.inj (h2.symm.trans (Stand.of_body B).code)
      intro x hx
      rw [Array.isEmpty_iff.mp h7] at hx
      cases hx
    obtain ⟨t, a1, o, b1, b2, b3⟩ := body p e s m args below meth c s₁ B hml ht hP s₁ hh0 (Stand.of_body B)
    exact ⟨t, o, a1, b1, b2, b3⟩
/-- the table of a body with handlers -/
theorem vx_table {p : Program} {x y : MethodName} {S : Spec} {cc bytes : ByteArray} {maxL maxL' : Nat} {ret ret' : Option FieldType} {e : Env} {s s₁ : State} {m : MethodId} {args : Array Value} {below : List Frame} {meth : Method} {c : Code} {hh : List (Nat × Nat × Nat × Nat)}
    (B : BodyLoose p l y S cc maxL ret e s m args below meth c s₁) (h : (Cond.codeWith y bytes maxL' ret' hh).before args s = true) : c.exceptionTable.toList = tableOf hh := by
  obtain ⟨m9, meth9, c9, hn9, h1, h2, -, -, h6, -⟩ := Cond.codeWith_spec h
  cases Option.some.inj (hn9.symm.trans B.named)
  cases Option.some.inj (h1.symm.trans B.method)
  cases Option.some.inj (h2.symm.trans (Stand.of_body B).code)
  rw [← h6, table_eq]
end Bodies
end VXA
/-! ===== END ===== -/
/-! ===== BEGIN a static call of a method with an exception table ===== -/
section VXS
variable {p : Program} {l : Launch} {e : Env} {R : Room} {s : State} {m : MethodId} {args : Array Value} {below : List Frame} {meth : Method} {c : Code} {T : State} {H : Heap} {locs : List Loc} {cells slots : Nat}
abbrev vx_CSW (R : Room) (s : State) (args : Array Value) (own : String) (index : Nat) (y : MethodName) (bytes : ByteArray) (maxL : Nat) (ret : Option FieldType) (hh : List (Nat × Nat × Nat × Nat)) (ws : List Cond) (rm : Room) (mc ms n : Nat) : Prop :=
  (rm.cells = mc ∧ rm.slots = ms ∧ rm.frames + 1 ≤ R.frames ∧ 8 + (maxL + 11) + rm.locals ≤ R.locals ∧ (∀ w ∈ ws, ∀ (a' : Array Value) (U : State), s.WarmedH U.vm → w.before a' U = true) ∧ Cond.codeWith y bytes maxL ret hh ∈ ws) ∧
  (Cond.codeWith y bytes maxL ret hh).before args s = true ∧ (Cond.initialized y.cls).before args s = true ∧ (y.cls ≠ "java/lang/invoke/MethodHandle" ∧ y.cls ≠ "java/lang/invoke/VarHandle") ∧
  (∀ sig, parseMethodDescriptor y.desc = some sig → n = sig.parameters.length) ∧ (Cond.methodLink own index y).before args s = true ∧ (Cond.static y).before args s = true
theorem vx_cwSW {own : String} {index maxL mc ms : Nat} {y : MethodName} {bytes : ByteArray} {ret : Option FieldType} {hh : List (Nat × Nat × Nat × Nat)} {Ts ws ws' : List Cond} {rm : Room} (n : Nat) (ht : ∀ w ∈ Ts, w.before args s = true) (hT : GoodIn Ts (va_wsS own index y ws)) (hw : ws = Cond.codeWith y bytes maxL ret hh :: ws') (hrc : rm.cells = mc) (hrs : rm.slots = ms)
    (hd : y.cls ≠ "java/lang/invoke/MethodHandle" ∧ y.cls ≠ "java/lang/invoke/VarHandle" ∧ (parseMethodDescriptor y.desc).map (fun d => d.parameters.length) = some n) (hR : rm.frames + 1 ≤ R.frames ∧ 8 + (maxL + 11) + rm.locals ≤ R.locals) :
    vx_CSW R s args own index y bytes maxL ret hh ws rm mc ms n := by
  have ok : ∀ w ∈ va_wsS own index y ws, w.before args s = true := fun w h => ht w (hT w h).1
  have hG : GoodIn Ts ws := fun w h => hT w (by unfold va_wsS; exact List.mem_append_right _ h)
  have hc : Cond.codeWith y bytes maxL ret hh ∈ ws := by rw [hw]; exact List.mem_cons_self
  refine ⟨⟨hrc, hrs, hR.1, hR.2, pay_in ht hG, hc⟩, ht _ (hG _ hc).1, ok _ (by simp [va_wsS]), ⟨hd.1, hd.2.1⟩, fun sig h => ?_, ok _ (by simp [va_wsS]), ok _ (by simp [va_wsS])⟩
  have h2 := hd.2.2
  rw [h] at h2
  exact (Option.some.inj h2).symm
theorem vx_callSW (X : Stand p l e R s m args below meth c T locs cells slots) (hexec : p.tables.exec = Jvm.exec) {own : String} {index : Nat} {y : MethodName} {bytes : ByteArray} {maxL : Nat} {ret : Option FieldType} {hh : List (Nat × Nat × Nat × Nat)}
    (hown : s.vm.findClass own = some m.cls) (hlink : (Cond.methodLink own index y).before args s = true) (hstat : (Cond.static y).before args s = true) (hinit : (Cond.initialized y.cls).before args s = true)
    (hcode : (Cond.codeWith y bytes maxL ret hh).before args s = true) (hy : y.cls ≠ "java/lang/invoke/MethodHandle" ∧ y.cls ≠ "java/lang/invoke/VarHandle")
    {W9 : Nat} {Pre : Pt → Array Value → Prop} {Post : Pt → Array Value → Option Value → Pt → Prop} (hK : Back l R p e below s args y 3 W9 Pre Post)
    {g : JFrame} (hg : g.method = m) (hsize : g.locals.size = c.maxLocals) {argsL rest : List Value} (hlen : ∀ sig, parseMethodDescriptor y.desc = some sig → argsL.length = sig.parameters.length)
    (hstack : g.stack = argsL.reverse ++ rest) (hW : 2 * g.monitorRoom + (rest.map fun v => v.category).sum ≤ W9) (hdg : decode c.code g.pc = .ok (.invokestatic index, 3))
    (hpre : ∀ vm₁, s.WarmedH vm₁ → Pre ⟨T.setVm vm₁, locs, cells, slots⟩ argsL.toArray) :
    ∃ (v : Option Value) (vm₁ : Vm) (B : Pt), s.WarmedH vm₁ ∧ Stand p l e R s m args below meth c B.U B.locs B.cells B.slots ∧ Post ⟨T.setVm vm₁, locs, cells, slots⟩ argsL.toArray v B ∧
      ∀ target, Steps p.tables e below (B.U.setTop { g with pc := g.pc + 3, stack := v.toList ++ rest }) target → Steps p.tables e below (T.setTop g) target := by
  obtain ⟨mk, methM, cM, hnamed, hmethM, -, -, -, -, -, -, hsigM⟩ := Cond.codeWith_spec hcode
  have hstatic : methM.isStatic = true := Cond.static_spec hnamed hmethM hstat
  obtain ⟨kP, hkP, -⟩ := className_of_methodNamed hnamed
  have hinitP : kP.init = .initialized := Cond.initialized_spec (findClass_of_methodNamed hnamed) hkP hinit
  obtain ⟨vm₁, X₁, hstep₁⟩ := X.invokestatic hexec hown hlink hnamed hmethM hstatic hkP hinitP hy (g := g) hg (argsL := argsL) (rest := rest) (hlen _ hsigM) hstack hdg
  obtain ⟨v, B, X', hpost, hsteps⟩ := hK m meth c ⟨T.setVm vm₁, locs, cells, slots⟩ { g with stack := rest } (.invokestatic index) mk argsL.toArray X₁ hg hsize hdg hW (X₁.named hnamed) (hpre vm₁ X₁.warmed)
  exact ⟨v, vm₁, B, X₁.warmed, X', hpost, fun target h => hstep₁ _ fun acts => by rw [doInvoke_state]; exact hsteps.trans h⟩
theorem vx_runSW {y : MethodName} {bytes cc : ByteArray} {maxL nL mc ms n index : Nat} {ret : Option FieldType} {hh : List (Nat × Nat × Nat × Nat)} {ws : List Cond} {rm : Room} {Pc : Array Value → State → Prop} {Qc : Array Value → State → Outcome → State → Prop} {free : Addr → Prop} {Ts : List Cond} {own : String} {As rest : List Value} {g : JFrame}
    (S : CallFix p m c cc nL s args Ts own) (hM : Met l y ws rm Pc Qc mc ms free) (cw : vx_CSW R s args own index y bytes maxL ret hh ws rm mc ms n) (hp : PreS s H Pc As)
    (hg : g.method = m) (hn : As.length = n) (hsize : g.locals.size = nL) (hstack : g.stack = As.reverse ++ rest) (hW : 2 * g.monitorRoom + (rest.map fun v => v.category).sum ≤ 8) (hdg : decode cc g.pc = .ok (.invokestatic index, 3)) (hf : cells + mc ≤ R.cells ∧ slots + ms ≤ R.slots) :
    va_Run p l e R s m args below meth c H locs cells slots mc ms g rest (Qc As.toArray) (free) := by
  obtain ⟨⟨hrc, hrs, hfr, hlo, hws, hcw⟩, hcode, hini, hy, hlen, hl, hstt⟩ := cw
  have hK : Back l R p e below s args y 3 8 (PreOf R mc ms Pc) (PostOf Qc mc ms free) := va_backW (hh := hh) (bytes := bytes) (maxL := maxL) (ret := ret) hM hp.1 hrc hrs hfr hlo hws hcw (fun a' U hW => word_at hW (Or.inl (by first | rfl | simp [Cond.onTables, Cond.keeps, Cond.steady])) hini)
  obtain ⟨hx, hb, hml, ho, -⟩ := S
  intro T hT X
  obtain ⟨v, vm₁, ⟨U', l2, c2, s2⟩, hW₁, X', ⟨g', mk, t, L, e1, e2, hq, h1, hL, h2, h3⟩, st⟩ := vx_callSW X hx (hh := hh) (bytes := bytes) (maxL := maxL) (ret := ret) ho hl hstt hini hcode hy hK hg (hsize.trans hml.symm) (argsL := As) (rest := rest) (fun sig h => hn.trans (hlen sig h)) hstack hW (by rw [hb]; exact hdg)
    (fun vm₁ hW₁ => ⟨hf.1, hf.2, hp.2 (T.setVm vm₁) hT hW₁⟩)
  dsimp only [Pt.U, Pt.locs, Pt.cells, Pt.slots] at X' e1 e2 h1 h2 h3 st
  subst h1; subst h2; subst h3
  exact ⟨v, (T.setVm vm₁).calling g' mk As.toArray, t, U', L, hT, X', hL, e1, e2, hq, st⟩
/-- a thing of a world lies in the heap -/
theorem vx_lt {D : va_G} {cl : List vw_C} {ws : va_W} {H1 : Heap} (h : va_P D cl ws H1) {k : Nat} {q : Nat × va_E} (hk : ws[k]? = some q) : q.1 < H1.size := (h k q hk).lt
end VXS
/-! ===== END ===== -/
/-! ===== BEGIN methods with a table of their own: called by a name, returning or throwing ===== -/
section VXH
/-! vx_backW, vx_callVX, vx_callSX, vx_callVW, vx_runVW, vx_runVX, vx_runSX, vx_ofWH follow the same proofs as their sisters above (Free/Laws.lean, Shelf42/LK1.lean); vx_outP calls Shelf42/NT130.lean (outThrough). -/
section
variable {l : Launch} {R : Room} {p : Program} {e : Env} {below : List Frame} {s : State} {sargs : Array Value} {y : MethodName} {len W9 : Nat}
theorem vx_backW {ws : List Cond} {rm : Room} {Pc : Array Value → State → Prop} {Qc : Array Value → State → Outcome → State → Prop} {XC : String → State → State → Prop} {mc ms : Nat} {free : Addr → Prop} {bytes : ByteArray} {maxL : Nat} {ret : Option FieldType} {hh : List (Nat × Nat × Nat × Nat)}
    (hM : vx_Met l y ws rm Pc Qc XC mc ms free) (hblind : FrameBlind Pc) (hrc : rm.cells = mc) (hrs : rm.slots = ms)
    (hframes : rm.frames + 1 ≤ R.frames) (hlocals : W9 + (maxL + 11) + rm.locals ≤ R.locals)
    (hws : ∀ w ∈ ws, ∀ a' U, s.WarmedH U.vm → w.before a' U = true) (hcode : Cond.codeWith y bytes maxL ret hh ∈ ws) (hinit : ∀ a' U, s.WarmedH U.vm → (Cond.initialized y.cls).before a' U = true) :
    vx_Back l R p e below s sargs y len W9 (PreOf R mc ms Pc) (PostOf Qc mc ms free) (vx_Post XC mc ms free) := by
  intro m meth c A g ig mk a X hg hsize hdg hW hn hp
  have h1 : (headSpec ws rm).pre.before a A.U = true := atoms_intro fun w hw => hws w hw _ _ X.warmed
  have h2 : (Cond.codeWith y bytes maxL ret hh).before a A.U = true := hws _ hcode _ _ X.warmed
  have h3 : (Cond.initialized y.cls).before a A.U = true := hinit _ _ X.warmed
  have h4 : A.cells + (headSpec ws rm).room.cells ≤ R.cells := by rw [show (headSpec ws rm).room.cells = mc from hrc]; exact hp.1
  have h5 : A.slots + (headSpec ws rm).room.slots ≤ R.slots := by rw [show (headSpec ws rm).room.slots = ms from hrs]; exact hp.2.1
  have hPc : Pc a (A.U.calling g mk a) := hblind _ _ _ _ hp.2.2
  obtain ⟨U, Ls, c0, s0⟩ := A
  dsimp only [Pt.U, Pt.locs, Pt.cells, Pt.slots] at h1 h2 h3 h4 h5 X hn hPc ⊢
  obtain ⟨m9, methY, cY, hn9, hmY, hcY, -, hlY, -⟩ := Cond.codeWith_spec h2
  cases Option.some.inj (hn9.symm.trans hn)
  obtain ⟨kY, hkY, -⟩ := className_of_methodNamed hn
  have hinitY : kY.init = .initialized := Cond.initialized_spec (findClass_of_methodNamed hn) hkY h3
  have h : At U g.method c below := by rw [hg]; exact X.here
  have hlocals9 : W9 + (maxL + 11) + (headSpec ws rm).room.locals ≤ R.locals := hlocals
  have happ : (headSpec ws rm).appliesLoose y e.platform (U.calling g mk a) = true :=
    Spec.appliesLoose_calling (g := g) h hdg hn hkY hinitY
      (X.room_calling (g := g) (R' := (headSpec ws rm).room) hsize hmY hcY hframes (by rw [hlY]; omega) h4 h5) h1
  obtain ⟨mid, hmid⟩ := h.above
  have hfr : (U.setTop g).frames = (.java g :: mid) ++ below := by rw [State.frames_setTop' g h.top, hmid]; rfl
  obtain ⟨o, s₂, hsteps, -, hend, hq⟩ := Steps.callFree hM p X.admits X.cas X.clock (acts := []) hfr happ hPc trivial
  have hq' : vx_Q Qc XC mc ms free a (U.calling g mk a) o s₂ := hq
  rw [State.frames_setTop' g h.top] at hend
  obtain ⟨g₀, hg0⟩ := Option.isSome_iff_exists.mp h.top
  obtain ⟨r, hr⟩ := State.topJava?_eq_some.mp hg0
  have hr' : (({ U with heap := s₂.heap, slotsUsed := s₂.slotsUsed } : State).setVm s₂.vm).frames = .java g₀ :: r := hr
  rcases hq' with ⟨hqc, L, hfe, hL⟩ | ⟨q, rfl, E, ce, L, hx, hce, hcv, hcl, hW₂, hsm, hL⟩
  · obtain ⟨⟨v, rfl⟩, hW₂, e2, q2, q3, q4, q5, q6⟩ := id hfe
    have e3 : s₂ = ({ (U.calling g mk a).setFrames s₂.frames with heap := s₂.heap, slotsUsed := s₂.slotsUsed } : State).setVm s₂.vm := by
      have : s₂ = ({ s₂ with vm := (U.calling g mk a).vm } : State).setVm s₂.vm := rfl
      rw [e2] at this
      exact this
    obtain ⟨c₂, i₂, len₂, hc₂, hd₂, hf₂⟩ := hend
    have hW' : U.WarmedH s₂.vm := hW₂
    have hcc : c₂ = c := by
      have h1 : s₂.code? g.method = U.code? g.method := by
        rw [State.code?_eq, State.code?_eq, hW'.alike.method?]
      exact Option.some.inj (hc₂.symm.trans (h1.trans h.code))
    subst hcc
    have hlen : len₂ = len := by rw [hdg] at hd₂; cases hd₂; rfl
    subst hlen
    have hs₂ : s₂ = (({ U with heap := s₂.heap, slotsUsed := s₂.slotsUsed } : State).setVm s₂.vm).setTop { g with pc := g.pc + len₂, stack := v.toList ++ g.stack } := by
      refine e3.trans ?_
      rw [hf₂, State.calling_eq h.top, State.setFrames_setFrames, State.setTop_of_frames _ hr', hr]
      rfl
    have hsame : U.sameButNew ({ U with heap := s₂.heap, slotsUsed := s₂.slotsUsed } : State) L mc ms := by
      refine ⟨?_, q2, q3, q4, q5, q6⟩
      obtain ⟨t, ht, -⟩ := State.frames_cons hr
      show ({ U with heap := s₂.heap, slotsUsed := s₂.slotsUsed } : State) = { U.setFrames U.frames with heap := s₂.heap, slotsUsed := s₂.slotsUsed }
      rw [State.setFrames_self ht]
    subst hg
    refine Or.inl ⟨v, ⟨(({ U with heap := s₂.heap, slotsUsed := s₂.slotsUsed } : State).setVm s₂.vm), Ls ++ L, c0 + mc, s0 + ms⟩,
      ⟨X.admits, X.cas, X.clock, X.frames, X.room, X.hears, X.method, X.code, (X.here.setHeapUsed s₂.heap s₂.slotsUsed).setVm hW'.alike, X.tail, State.WarmedH.trans X.warmed hW', X.limits, X.bytes, X.same.trans (hsame.setVm s.vm)⟩,
      ⟨g, mk, s₂, L, rfl, rfl, hqc, rfl, hL, rfl, rfl⟩, ?_⟩
    show Steps p.tables e below _ ((({ U with heap := s₂.heap, slotsUsed := s₂.slotsUsed } : State).setVm s₂.vm).setTop { g with pc := g.pc + len₂, stack := v.toList ++ g.stack })
    rw [← hs₂]
    exact hsteps
  · obtain ⟨e2, q2, q3, q4, q5, q6⟩ := id hsm
    have e3 : s₂ = ({ (U.calling g mk a).setFrames s₂.frames with heap := s₂.heap, slotsUsed := s₂.slotsUsed } : State).setVm s₂.vm := by
      have : s₂ = ({ s₂ with vm := (U.calling g mk a).vm } : State).setVm s₂.vm := rfl
      rw [e2] at this
      exact this
    have hf₂ : s₂.frames = .throwing q :: .java g :: U.frames.tail := hend
    have hW' : U.WarmedH s₂.vm := hW₂
    have hs₂ : s₂ = ((({ U with heap := s₂.heap, slotsUsed := s₂.slotsUsed } : State).setVm s₂.vm).setTop g).pushFrame (.throwing q) := by
      refine e3.trans ?_
      rw [hf₂, State.calling_eq h.top, State.setFrames_setFrames, State.pushFrame, State.frames_setTop _ hr', State.setTop_of_frames _ hr', State.setFrames_setFrames, hr]
      rfl
    have hsame : U.sameButNew ({ U with heap := s₂.heap, slotsUsed := s₂.slotsUsed } : State) L mc ms := by
      refine ⟨?_, q2, q3, q4, q5, q6⟩
      obtain ⟨t, ht, -⟩ := State.frames_cons hr
      show ({ U with heap := s₂.heap, slotsUsed := s₂.slotsUsed } : State) = { U.setFrames U.frames with heap := s₂.heap, slotsUsed := s₂.slotsUsed }
      rw [State.setFrames_self ht]
    subst hg
    refine Or.inr ⟨q, ⟨(({ U with heap := s₂.heap, slotsUsed := s₂.slotsUsed } : State).setVm s₂.vm), Ls ++ L, c0 + mc, s0 + ms⟩,
      ⟨X.admits, X.cas, X.clock, X.frames, X.room, X.hears, X.method, X.code, (X.here.setHeapUsed s₂.heap s₂.slotsUsed).setVm hW'.alike, X.tail, State.WarmedH.trans X.warmed hW', X.limits, X.bytes, X.same.trans (hsame.setVm s.vm)⟩,
      ⟨g, mk, s₂, L, E, ce, rfl, rfl, hx, hce, hcv, hcl, rfl, hL, rfl, rfl⟩, ?_⟩
    show Steps p.tables e below _ (((({ U with heap := s₂.heap, slotsUsed := s₂.slotsUsed } : State).setVm s₂.vm).setTop g).pushFrame (.throwing q))
    rw [← hs₂]
    exact hsteps
end
variable {p : Program} {l : Launch} {e : Env} {R : Room} {s : State} {m : MethodId} {args : Array Value} {below : List Frame} {meth : Method} {c : Code} {T : State} {H : Heap} {locs : List Loc} {cells slots : Nat}
theorem vx_callVX (X : Stand p l e R s m args below meth c T locs cells slots) (hexec : p.tables.exec = Jvm.exec) {own C : String} {index : Nat} {y : MethodName} {bytes : ByteArray} {maxL : Nat} {ret : Option FieldType} {hh : List (Nat × Nat × Nat × Nat)}
    (hown : s.vm.findClass own = some m.cls) (hlink : (Cond.methodLink own index y).before args s = true) (hinst : (Cond.instanceMethod y).before args s = true) (hsel : (Cond.selects C y y).before args s = true)
    (hcode : (Cond.codeWith y bytes maxL ret hh).before args s = true) (hy : y.cls ≠ "java/lang/invoke/MethodHandle" ∧ y.cls ≠ "java/lang/invoke/VarHandle")
    {W9 : Nat} {Pre : Pt → Array Value → Prop} {Post : Pt → Array Value → Option Value → Pt → Prop} {PostX : Pt → Array Value → Addr → Pt → Prop} (hK : vx_Back l R p e below s args y 3 W9 Pre Post PostX)
    {b : Addr} {cellB : Cell} (hcell : T.heap[b]? = some cellB) (hobj : cellB.vm.isStatics = false) (hcls : s.vm.findClass C = some cellB.cls)
    {g : JFrame} (hg : g.method = m) (hsize : g.locals.size = c.maxLocals) {argsL rest : List Value} (hlen : ∀ sig, parseMethodDescriptor y.desc = some sig → argsL.length = sig.parameters.length)
    (hstack : g.stack = argsL.reverse ++ .ref b :: rest) (hW : 2 * g.monitorRoom + (rest.map fun v => v.category).sum ≤ W9) (hdg : decode c.code g.pc = .ok (.invokevirtual index, 3))
    (hpre : ∀ vm₁, s.WarmedH vm₁ → Pre ⟨T.setVm vm₁, locs, cells, slots⟩ (Value.ref b :: argsL).toArray) :
    (∃ (v : Option Value) (vm₁ : Vm) (B : Pt), s.WarmedH vm₁ ∧ Stand p l e R s m args below meth c B.U B.locs B.cells B.slots ∧ Post ⟨T.setVm vm₁, locs, cells, slots⟩ (Value.ref b :: argsL).toArray v B ∧
      ∀ target, Steps p.tables e below (B.U.setTop { g with pc := g.pc + 3, stack := v.toList ++ rest }) target → Steps p.tables e below (T.setTop g) target) ∨
    (∃ (q : Addr) (vm₁ : Vm) (B : Pt), s.WarmedH vm₁ ∧ Stand p l e R s m args below meth c B.U B.locs B.cells B.slots ∧ PostX ⟨T.setVm vm₁, locs, cells, slots⟩ (Value.ref b :: argsL).toArray q B ∧
      Steps p.tables e below (T.setTop g) ((B.U.setTop { g with stack := rest }).pushFrame (.throwing q))) := by
  obtain ⟨mk, methM, hnamed, hmethM, hstM, habM⟩ := Cond.instanceMethod_spec hinst
  obtain ⟨m8, methM', cM, hn8, hmethM', -, -, -, -, -, -, hsigM⟩ := Cond.codeWith_spec hcode
  cases Option.some.inj (hn8.symm.trans hnamed)
  cases hmethM.symm.trans hmethM'
  obtain ⟨c2, r2, m2, q1, q2, q3, q4, kP, hkP, hkPi⟩ := Cond.selects_spec hsel
  cases hcls.symm.trans q1
  cases (State.methodFound?_of_named hnamed hy).symm.trans q2
  cases hnamed.symm.trans q3
  have hselP : selectMethod e.platform s.vm cellB.cls mk = .method mk := by rw [Launch.admits_selectMethod X.admits]; exact q4
  obtain ⟨vm₁, X₁, hstep₁⟩ := X.invokevirtual hexec hown hlink hnamed hmethM hstM hkP hkPi hy (a := b) (cell := cellB) hcell
    (fun z h => by rw [h] at hobj; cases hobj) hselP hmethM habM hkP hkPi (g := g) hg (argsL := argsL) (rest := rest) (hlen _ hsigM) hstack hdg
  rcases hK m meth c ⟨T.setVm vm₁, locs, cells, slots⟩ { g with stack := rest } (.invokevirtual index) mk (Value.ref b :: argsL).toArray X₁ hg hsize hdg hW (X₁.named hnamed) (hpre vm₁ X₁.warmed) with ⟨v, B, X', hpost, hsteps⟩ | ⟨q, B, X', hpost, hsteps⟩
  · exact Or.inl ⟨v, vm₁, B, X₁.warmed, X', hpost, fun target h => hstep₁ _ fun acts => by rw [doInvoke_state]; exact hsteps.trans h⟩
  · exact Or.inr ⟨q, vm₁, B, X₁.warmed, X', hpost, hstep₁ _ fun acts => by rw [doInvoke_state]; exact hsteps⟩
theorem vx_callSX (X : Stand p l e R s m args below meth c T locs cells slots) (hexec : p.tables.exec = Jvm.exec) {own : String} {index : Nat} {y : MethodName} {bytes : ByteArray} {maxL : Nat} {ret : Option FieldType} {hh : List (Nat × Nat × Nat × Nat)}
    (hown : s.vm.findClass own = some m.cls) (hlink : (Cond.methodLink own index y).before args s = true) (hstat : (Cond.static y).before args s = true) (hinit : (Cond.initialized y.cls).before args s = true)
    (hcode : (Cond.codeWith y bytes maxL ret hh).before args s = true) (hy : y.cls ≠ "java/lang/invoke/MethodHandle" ∧ y.cls ≠ "java/lang/invoke/VarHandle")
    {W9 : Nat} {Pre : Pt → Array Value → Prop} {Post : Pt → Array Value → Option Value → Pt → Prop} {PostX : Pt → Array Value → Addr → Pt → Prop} (hK : vx_Back l R p e below s args y 3 W9 Pre Post PostX)
    {g : JFrame} (hg : g.method = m) (hsize : g.locals.size = c.maxLocals) {argsL rest : List Value} (hlen : ∀ sig, parseMethodDescriptor y.desc = some sig → argsL.length = sig.parameters.length)
    (hstack : g.stack = argsL.reverse ++ rest) (hW : 2 * g.monitorRoom + (rest.map fun v => v.category).sum ≤ W9) (hdg : decode c.code g.pc = .ok (.invokestatic index, 3))
    (hpre : ∀ vm₁, s.WarmedH vm₁ → Pre ⟨T.setVm vm₁, locs, cells, slots⟩ argsL.toArray) :
    (∃ (v : Option Value) (vm₁ : Vm) (B : Pt), s.WarmedH vm₁ ∧ Stand p l e R s m args below meth c B.U B.locs B.cells B.slots ∧ Post ⟨T.setVm vm₁, locs, cells, slots⟩ argsL.toArray v B ∧
      ∀ target, Steps p.tables e below (B.U.setTop { g with pc := g.pc + 3, stack := v.toList ++ rest }) target → Steps p.tables e below (T.setTop g) target) ∨
    (∃ (q : Addr) (vm₁ : Vm) (B : Pt), s.WarmedH vm₁ ∧ Stand p l e R s m args below meth c B.U B.locs B.cells B.slots ∧ PostX ⟨T.setVm vm₁, locs, cells, slots⟩ argsL.toArray q B ∧
      Steps p.tables e below (T.setTop g) ((B.U.setTop { g with stack := rest }).pushFrame (.throwing q))) := by
  obtain ⟨mk, methM, cM, hnamed, hmethM, -, -, -, -, -, -, hsigM⟩ := Cond.codeWith_spec hcode
  have hstatic : methM.isStatic = true := Cond.static_spec hnamed hmethM hstat
  obtain ⟨kP, hkP, -⟩ := className_of_methodNamed hnamed
  have hinitP : kP.init = .initialized := Cond.initialized_spec (findClass_of_methodNamed hnamed) hkP hinit
  obtain ⟨vm₁, X₁, hstep₁⟩ := X.invokestatic hexec hown hlink hnamed hmethM hstatic hkP hinitP hy (g := g) hg (argsL := argsL) (rest := rest) (hlen _ hsigM) hstack hdg
  rcases hK m meth c ⟨T.setVm vm₁, locs, cells, slots⟩ { g with stack := rest } (.invokestatic index) mk argsL.toArray X₁ hg hsize hdg hW (X₁.named hnamed) (hpre vm₁ X₁.warmed) with ⟨v, B, X', hpost, hsteps⟩ | ⟨q, B, X', hpost, hsteps⟩
  · exact Or.inl ⟨v, vm₁, B, X₁.warmed, X', hpost, fun target h => hstep₁ _ fun acts => by rw [doInvoke_state]; exact hsteps.trans h⟩
  · exact Or.inr ⟨q, vm₁, B, X₁.warmed, X', hpost, hstep₁ _ fun acts => by rw [doInvoke_state]; exact hsteps⟩
theorem vx_callVW (X : Stand p l e R s m args below meth c T locs cells slots) (hexec : p.tables.exec = Jvm.exec) {own C : String} {index : Nat} {y : MethodName} {bytes : ByteArray} {maxL : Nat} {ret : Option FieldType} {hh : List (Nat × Nat × Nat × Nat)}
    (hown : s.vm.findClass own = some m.cls) (hlink : (Cond.methodLink own index y).before args s = true) (hinst : (Cond.instanceMethod y).before args s = true) (hsel : (Cond.selects C y y).before args s = true)
    (hcode : (Cond.codeWith y bytes maxL ret hh).before args s = true) (hy : y.cls ≠ "java/lang/invoke/MethodHandle" ∧ y.cls ≠ "java/lang/invoke/VarHandle")
    {W9 : Nat} {Pre : Pt → Array Value → Prop} {Post : Pt → Array Value → Option Value → Pt → Prop} (hK : Back l R p e below s args y 3 W9 Pre Post)
    {b : Addr} {cellB : Cell} (hcell : T.heap[b]? = some cellB) (hobj : cellB.vm.isStatics = false) (hcls : s.vm.findClass C = some cellB.cls)
    {g : JFrame} (hg : g.method = m) (hsize : g.locals.size = c.maxLocals) {argsL rest : List Value} (hlen : ∀ sig, parseMethodDescriptor y.desc = some sig → argsL.length = sig.parameters.length)
    (hstack : g.stack = argsL.reverse ++ .ref b :: rest) (hW : 2 * g.monitorRoom + (rest.map fun v => v.category).sum ≤ W9) (hdg : decode c.code g.pc = .ok (.invokevirtual index, 3))
    (hpre : ∀ vm₁, s.WarmedH vm₁ → Pre ⟨T.setVm vm₁, locs, cells, slots⟩ (Value.ref b :: argsL).toArray) :
    ∃ (v : Option Value) (vm₁ : Vm) (B : Pt), s.WarmedH vm₁ ∧ Stand p l e R s m args below meth c B.U B.locs B.cells B.slots ∧ Post ⟨T.setVm vm₁, locs, cells, slots⟩ (Value.ref b :: argsL).toArray v B ∧
      ∀ target, Steps p.tables e below (B.U.setTop { g with pc := g.pc + 3, stack := v.toList ++ rest }) target → Steps p.tables e below (T.setTop g) target := by
  obtain ⟨mk, methM, hnamed, hmethM, hstM, habM⟩ := Cond.instanceMethod_spec hinst
  obtain ⟨m8, methM', cM, hn8, hmethM', -, -, -, -, -, -, hsigM⟩ := Cond.codeWith_spec hcode
  cases Option.some.inj (hn8.symm.trans hnamed)
  cases hmethM.symm.trans hmethM'
  obtain ⟨c2, r2, m2, q1, q2, q3, q4, kP, hkP, hkPi⟩ := Cond.selects_spec hsel
  cases hcls.symm.trans q1
  cases (State.methodFound?_of_named hnamed hy).symm.trans q2
  cases hnamed.symm.trans q3
  have hselP : selectMethod e.platform s.vm cellB.cls mk = .method mk := by rw [Launch.admits_selectMethod X.admits]; exact q4
  obtain ⟨vm₁, X₁, hstep₁⟩ := X.invokevirtual hexec hown hlink hnamed hmethM hstM hkP hkPi hy (a := b) (cell := cellB) hcell
    (fun z h => by rw [h] at hobj; cases hobj) hselP hmethM habM hkP hkPi (g := g) hg (argsL := argsL) (rest := rest) (hlen _ hsigM) hstack hdg
  obtain ⟨v, B, X', hpost, hsteps⟩ := hK m meth c ⟨T.setVm vm₁, locs, cells, slots⟩ { g with stack := rest } (.invokevirtual index) mk (Value.ref b :: argsL).toArray X₁ hg hsize hdg hW (X₁.named hnamed) (hpre vm₁ X₁.warmed)
  exact ⟨v, vm₁, B, X₁.warmed, X', hpost, fun target h => hstep₁ _ fun acts => by rw [doInvoke_state]; exact hsteps.trans h⟩
abbrev vx_CVW (R : Room) (s : State) (args : Array Value) (own C : String) (index : Nat) (y : MethodName) (bytes : ByteArray) (maxL : Nat) (ret : Option FieldType) (hh : List (Nat × Nat × Nat × Nat)) (ws : List Cond) (rm : Room) (mc ms n : Nat) : Prop :=
  (rm.cells = mc ∧ rm.slots = ms ∧ rm.frames + 1 ≤ R.frames ∧ 8 + (maxL + 11) + rm.locals ≤ R.locals ∧ (∀ w ∈ ws, ∀ (a' : Array Value) (U : State), s.WarmedH U.vm → w.before a' U = true) ∧ Cond.codeWith y bytes maxL ret hh ∈ ws) ∧
  (Cond.codeWith y bytes maxL ret hh).before args s = true ∧ (Cond.initialized y.cls).before args s = true ∧ (y.cls ≠ "java/lang/invoke/MethodHandle" ∧ y.cls ≠ "java/lang/invoke/VarHandle") ∧
  (∀ sig, parseMethodDescriptor y.desc = some sig → n = sig.parameters.length) ∧ (Cond.methodLink own index y).before args s = true ∧ (Cond.instanceMethod y).before args s = true ∧ (Cond.selects C y y).before args s = true
theorem vx_cwVW {own C : String} {index maxL mc ms : Nat} {y : MethodName} {bytes : ByteArray} {ret : Option FieldType} {hh : List (Nat × Nat × Nat × Nat)} {Ts ws ws' : List Cond} {rm : Room} (n : Nat) (ht : ∀ w ∈ Ts, w.before args s = true) (hT : GoodIn Ts (wsV own index C y ws)) (hw : ws = Cond.codeWith y bytes maxL ret hh :: ws') (hrc : rm.cells = mc) (hrs : rm.slots = ms)
    (hd : y.cls = C ∧ y.cls ≠ "java/lang/invoke/MethodHandle" ∧ y.cls ≠ "java/lang/invoke/VarHandle" ∧ (parseMethodDescriptor y.desc).map (fun d => d.parameters.length) = some n) (hR : rm.frames + 1 ≤ R.frames ∧ 8 + (maxL + 11) + rm.locals ≤ R.locals) :
    vx_CVW R s args own C index y bytes maxL ret hh ws rm mc ms n := by
  obtain ⟨hC, hd⟩ := hd
  subst hC
  have ok : ∀ w ∈ wsV own index y.cls y ws, w.before args s = true := fun w h => ht w (hT w h).1
  have hG : GoodIn Ts ws := fun w h => hT w (by unfold wsV; exact List.mem_append_right _ h)
  have hc : Cond.codeWith y bytes maxL ret hh ∈ ws := by rw [hw]; exact List.mem_cons_self
  refine ⟨⟨hrc, hrs, hR.1, hR.2, pay_in ht hG, hc⟩, ht _ (hG _ hc).1, ok _ (by simp [wsV]), ⟨hd.1, hd.2.1⟩, fun sig h => ?_, ok _ (by simp [wsV]), ok _ (by simp [wsV]), ok _ (by simp [wsV])⟩
  have h2 := hd.2.2
  rw [h] at h2
  exact (Option.some.inj h2).symm
theorem vx_runVW {y : MethodName} {bytes cc : ByteArray} {maxL nL mc ms n index : Nat} {ret : Option FieldType} {hh : List (Nat × Nat × Nat × Nat)} {ws : List Cond} {rm : Room} {Pc : Array Value → State → Prop} {Qc : Array Value → State → Outcome → State → Prop} {free : Addr → Prop} {Ts : List Cond} {own C : String} {b : Addr} {As rest : List Value} {g : JFrame}
    (S : CallFix p m c cc nL s args Ts own) (hM : Met l y ws rm Pc Qc mc ms free) (cw : vx_CVW R s args own C index y bytes maxL ret hh ws rm mc ms n) (hp : PreV s H C b Pc As)
    (hg : g.method = m) (hn : As.length = n) (hsize : g.locals.size = nL) (hstack : g.stack = As.reverse ++ .ref b :: rest) (hW : 2 * g.monitorRoom + (rest.map fun v => v.category).sum ≤ 8) (hdg : decode cc g.pc = .ok (.invokevirtual index, 3)) (hf : cells + mc ≤ R.cells ∧ slots + ms ≤ R.slots) :
    va_Run p l e R s m args below meth c H locs cells slots mc ms g rest (Qc (Value.ref b :: As).toArray) free := by
  obtain ⟨⟨hrc, hrs, hfr, hlo, hws, hcw⟩, hcode, hini, hy, hlen, hl, hin, hse⟩ := cw
  have hK : Back l R p e below s args y 3 8 (PreOf R mc ms Pc) (PostOf Qc mc ms free) := va_backW (hh := hh) (bytes := bytes) (maxL := maxL) (ret := ret) hM hp.1 hrc hrs hfr hlo hws hcw (fun a' U hW => word_at hW (Or.inl (by first | rfl | simp [Cond.onTables, Cond.keeps, Cond.steady])) hini)
  obtain ⟨hx, hb, hml, ho, -⟩ := S
  obtain ⟨-, ⟨cellB, hcB, hoB, hclB⟩, hPc⟩ := hp
  intro T hT X
  obtain ⟨v, vm₁, ⟨U', l2, c2, s2⟩, hW₁, X', ⟨g', mk, t, L, e1, e2, hq, h1, hL, h2, h3⟩, st⟩ := vx_callVW X hx (C := C) (hh := hh) (bytes := bytes) (maxL := maxL) (ret := ret) ho hl hin hse hcode hy hK (by rw [hT]; exact hcB) hoB hclB hg (hsize.trans hml.symm) (argsL := As) (rest := rest) (fun sig h => hn.trans (hlen sig h)) hstack hW (by rw [hb]; exact hdg)
    (fun vm₁ hW₁ => ⟨hf.1, hf.2, hPc (T.setVm vm₁) hT hW₁⟩)
  dsimp only [Pt.U, Pt.locs, Pt.cells, Pt.slots] at X' e1 e2 h1 h2 h3 st
  subst h1; subst h2; subst h3
  exact ⟨v, (T.setVm vm₁).calling g' mk (Value.ref b :: As).toArray, t, U', L, hT, X', hL, e1, e2, hq, st⟩
section
variable {y : MethodName} {bytes cc : ByteArray} {maxL nL mc ms n index : Nat} {ret : Option FieldType} {ws : List Cond} {rm : Room} {Pc : Array Value → State → Prop} {Qc : Array Value → State → Outcome → State → Prop} {XC : String → State → State → Prop} {free : Addr → Prop} {Ts : List Cond} {own C : String} {b : Addr} {As rest : List Value} {g : JFrame}
theorem vx_runVX {hh : List (Nat × Nat × Nat × Nat)} (S : CallFix p m c cc nL s args Ts own) (hM : vx_Met l y ws rm Pc Qc XC mc ms free) (cw : vx_CVW R s args own C index y bytes maxL ret hh ws rm mc ms n) (hp : PreV s H C b Pc As)
    (hg : g.method = m) (hn : As.length = n) (hsize : g.locals.size = nL) (hstack : g.stack = As.reverse ++ .ref b :: rest) (hW : 2 * g.monitorRoom + (rest.map fun v => v.category).sum ≤ 8) (hdg : decode cc g.pc = .ok (.invokevirtual index, 3)) (hf : cells + mc ≤ R.cells ∧ slots + ms ≤ R.slots) :
    vx_Run p l e R s m args below meth c H locs cells slots mc ms g rest (Qc (Value.ref b :: As).toArray) XC free := by
  obtain ⟨⟨hrc, hrs, hfr, hlo, hws, hcw⟩, hcode, hini, hy, hlen, hl, hin, hse⟩ := cw
  have hK : vx_Back l R p e below s args y 3 8 (PreOf R mc ms Pc) (PostOf Qc mc ms free) (vx_Post XC mc ms free) := vx_backW (hh := hh) (bytes := bytes) (maxL := maxL) (ret := ret) hM hp.1 hrc hrs hfr hlo hws hcw (fun a' U hW => word_at hW (Or.inl (by first | rfl | simp [Cond.onTables, Cond.keeps, Cond.steady])) hini)
  obtain ⟨hx, hb, hml, ho, -⟩ := S
  obtain ⟨-, ⟨cellB, hcB, hoB, hclB⟩, hPc⟩ := hp
  intro T hT X
  rcases vx_callVX X hx (C := C) (hh := hh) (bytes := bytes) (maxL := maxL) (ret := ret) ho hl hin hse hcode hy hK (by rw [hT]; exact hcB) hoB hclB hg (hsize.trans hml.symm) (argsL := As) (rest := rest) (fun sig h => hn.trans (hlen sig h)) hstack hW (by rw [hb]; exact hdg)
    (fun vm₁ hW₁ => ⟨hf.1, hf.2, hPc (T.setVm vm₁) hT hW₁⟩) with ⟨v, vm₁, ⟨U', l2, c2, s2⟩, hW₁, X', ⟨g', mk, t, L, e1, e2, hq, h1, hL, h2, h3⟩, st⟩ | ⟨q, vm₁, ⟨U', l2, c2, s2⟩, hW₁, X', ⟨g', mk, t, L, E, ce, e1, e2, hq, hce, hcv, hcl, h1, hL, h2, h3⟩, st⟩
  · dsimp only [Pt.U, Pt.locs, Pt.cells, Pt.slots] at X' e1 e2 h1 h2 h3 st
    subst h1; subst h2; subst h3
    exact Or.inl ⟨v, (T.setVm vm₁).calling g' mk (Value.ref b :: As).toArray, t, U', L, hT, X', hL, e1, e2, hq, st⟩
  · dsimp only [Pt.U, Pt.locs, Pt.cells, Pt.slots] at X' e1 e2 h1 h2 h3 st hcl
    subst h1; subst h2; subst h3
    exact Or.inr ⟨q, (T.setVm vm₁).calling g' mk (Value.ref b :: As).toArray, t, U', L, E, ce, hT, X', hL, e1, e2, hq, hce, hcv, vx_cls hW₁ hcl, st⟩
theorem vx_runSX {hh : List (Nat × Nat × Nat × Nat)} (S : CallFix p m c cc nL s args Ts own) (hM : vx_Met l y ws rm Pc Qc XC mc ms free) (cw : vx_CSW R s args own index y bytes maxL ret hh ws rm mc ms n) (hp : PreS s H Pc As)
    (hg : g.method = m) (hn : As.length = n) (hsize : g.locals.size = nL) (hstack : g.stack = As.reverse ++ rest) (hW : 2 * g.monitorRoom + (rest.map fun v => v.category).sum ≤ 8) (hdg : decode cc g.pc = .ok (.invokestatic index, 3)) (hf : cells + mc ≤ R.cells ∧ slots + ms ≤ R.slots) :
    vx_Run p l e R s m args below meth c H locs cells slots mc ms g rest (Qc As.toArray) XC free := by
  obtain ⟨⟨hrc, hrs, hfr, hlo, hws, hcw⟩, hcode, hini, hy, hlen, hl, hstt⟩ := cw
  have hK : vx_Back l R p e below s args y 3 8 (PreOf R mc ms Pc) (PostOf Qc mc ms free) (vx_Post XC mc ms free) := vx_backW (hh := hh) (bytes := bytes) (maxL := maxL) (ret := ret) hM hp.1 hrc hrs hfr hlo hws hcw (fun a' U hW => word_at hW (Or.inl (by first | rfl | simp [Cond.onTables, Cond.keeps, Cond.steady])) hini)
  obtain ⟨hx, hb, hml, ho, -⟩ := S
  intro T hT X
  rcases vx_callSX X hx (hh := hh) (bytes := bytes) (maxL := maxL) (ret := ret) ho hl hstt hini hcode hy hK hg (hsize.trans hml.symm) (argsL := As) (rest := rest) (fun sig h => hn.trans (hlen sig h)) hstack hW (by rw [hb]; exact hdg)
    (fun vm₁ hW₁ => ⟨hf.1, hf.2, hp.2 (T.setVm vm₁) hT hW₁⟩) with ⟨v, vm₁, ⟨U', l2, c2, s2⟩, hW₁, X', ⟨g', mk, t, L, e1, e2, hq, h1, hL, h2, h3⟩, st⟩ | ⟨q, vm₁, ⟨U', l2, c2, s2⟩, hW₁, X', ⟨g', mk, t, L, E, ce, e1, e2, hq, hce, hcv, hcl, h1, hL, h2, h3⟩, st⟩
  · dsimp only [Pt.U, Pt.locs, Pt.cells, Pt.slots] at X' e1 e2 h1 h2 h3 st
    subst h1; subst h2; subst h3
    exact Or.inl ⟨v, (T.setVm vm₁).calling g' mk As.toArray, t, U', L, hT, X', hL, e1, e2, hq, st⟩
  · dsimp only [Pt.U, Pt.locs, Pt.cells, Pt.slots] at X' e1 e2 h1 h2 h3 st hcl
    subst h1; subst h2; subst h3
    exact Or.inr ⟨q, (T.setVm vm₁).calling g' mk As.toArray, t, U', L, E, ce, hT, X', hL, e1, e2, hq, hce, hcv, vx_cls hW₁ hcl, st⟩
end
end VXH
theorem vx_ofWH {l : Launch} {y : MethodName} {ws ws' : List Cond} {rm : Room} {Pc : Array Value → State → Prop} {Qc : Array Value → State → Outcome → State → Prop} {XC : String → State → State → Prop} {mc ms : Nat} {free : Addr → Prop} {cc : ByteArray} {maxL : Nat} {ret : Option FieldType} {hh : List (Nat × Nat × Nat × Nat)}
    (hy : plainName y.cls = true) (hw : ws = Cond.codeWith y cc maxL ret hh :: ws')
    (body : ∀ p e s m args below meth c s₁, BodyLoose p l y (headSpec ws rm) cc maxL ret e s m args below meth c s₁ → c.maxLocals = maxL → Pc args s →
      W p l e (headSpec ws rm).room s m args below meth c s.heap [] 0 0 (vx_MQ below Qc XC args s mc ms free) (entryFrame m args maxL)) : vx_Met l y ws rm Pc Qc XC mc ms free := by
  refine MetFree.of_bodyS (code := cc) (maxLocals := maxL) (ret := ret) hy ?_ ?_
  · intro args s m h hn
    obtain ⟨m9, meth, c, hn9, h1, h2, h3, h4, -, h5, h6, -⟩ := Cond.codeWith_spec (atoms_spec (ws := ws) h _ (by rw [hw]; exact List.mem_cons_self))
    cases hn.symm.trans hn9
    exact ⟨meth, c, h1, h2, h3, h4, h5, h6⟩
  · intro p e s m args below meth c s₁ B hml hP _
    have hh0 : s₁.heap = s.heap := by rw [B.state]; rfl
    obtain ⟨t, a1, o, b1, b2, b3⟩ := body p e s m args below meth c s₁ B hml hP s₁ hh0 (Stand.of_body B)
    exact ⟨t, o, a1, b1, b2, b3⟩
/-! ===== END ===== -/
end
section
def RX0 : String := "SeparateScreens$Cell"
def TX0 : u_T := fun k => match k with
  | 0 => ("SeparateScreens$Cell", "depth", "I", true)
  | 1 => ("SeparateScreens$Cell", "breadth", "I", true)
  | 2 => ("SeparateScreens$Cell", "slant", "I", true)
  | _ => ("SeparateScreens$Cell", "ranks", "[I", true)
def tyX0 : Nat → FieldType := fun k => match k with
  | 0 => .int
  | 1 => .int
  | 2 => .int
  | _ => .array .int
abbrev wsX00 : List Cond := u_ws RX0 TX0 4
theorem nmX0 : ∀ a, a < 4 → ∀ b, b < 4 → a ≠ b → (TX0 a).2.1 ≠ (TX0 b).2.1 := by decide +kernel
theorem tyX0_ok : ∀ k, k < 4 → parseFieldDescriptor (TX0 k).2.2.1 = some (tyX0 k) := by decide +kernel
abbrev cX0_init : ByteArray := prog_2_method_1_code
def yX0_init : MethodName := ⟨RX0, "<init>", "(II)V"⟩
abbrev cX0_commonDivisor : ByteArray := prog_2_method_2_code
def yX0_commonDivisor : MethodName := ⟨RX0, "commonDivisor", "(II)I"⟩
abbrev cX0_sideways : ByteArray := prog_2_method_3_code
def yX0_sideways : MethodName := ⟨RX0, "sideways", "(III)I"⟩
abbrev cX0_numberOf : ByteArray := prog_2_method_4_code
def yX0_numberOf : MethodName := ⟨RX0, "numberOf", "(II)I"⟩
abbrev cX0_leastSizes : ByteArray := prog_2_method_5_code
def yX0_leastSizes : MethodName := ⟨RX0, "leastSizes", "()[I"⟩
abbrev cX0_rankBySize : ByteArray := prog_2_method_6_code
def yX0_rankBySize : MethodName := ⟨RX0, "rankBySize", "([I)V"⟩
abbrev cX0_takes : ByteArray := prog_2_method_7_code
def yX0_takes : MethodName := ⟨RX0, "takes", "(III)Z"⟩
def RX1 : String := "SeparateScreens$Curve"
def TX1 : u_T := fun k => match k with
  | 0 => ("SeparateScreens$Curve", "places", "[I", true)
  | 1 => ("SeparateScreens$Curve", "values", "[I", true)
  | _ => ("SeparateScreens$Curve", "count", "I", false)
def tyX1 : Nat → FieldType := fun k => match k with
  | 0 => .array .int
  | 1 => .array .int
  | _ => .int
abbrev wsX10 : List Cond := u_ws RX1 TX1 3
theorem nmX1 : ∀ a, a < 3 → ∀ b, b < 3 → a ≠ b → (TX1 a).2.1 ≠ (TX1 b).2.1 := by decide +kernel
theorem tyX1_ok : ∀ k, k < 3 → parseFieldDescriptor (TX1 k).2.2.1 = some (tyX1 k) := by decide +kernel
abbrev cX1_init : ByteArray := prog_3_method_1_code
def yX1_init : MethodName := ⟨RX1, "<init>", "()V"⟩
abbrev cX1_firstFrom : ByteArray := prog_3_method_2_code
def yX1_firstFrom : MethodName := ⟨RX1, "firstFrom", "(I)I"⟩
abbrev cX1_hasRoomFor : ByteArray := prog_3_method_3_code
def yX1_hasRoomFor : MethodName := ⟨RX1, "hasRoomFor", "(I)Z"⟩
abbrev cX1_put : ByteArray := prog_3_method_4_code
def yX1_put : MethodName := ⟨RX1, "put", "(II)V"⟩
abbrev cX1_bent : ByteArray := prog_3_method_5_code
def yX1_bent : MethodName := ⟨RX1, "bent", "(I)I"⟩
def RX2 : String := "SeparateScreens$Inks"
def TX2 : u_T := fun k => match k with
  | 0 => ("SeparateScreens$Inks", "mixes", "[I", true)
  | 1 => ("SeparateScreens$Inks", "colour", "[I", true)
  | _ => ("SeparateScreens$Inks", "count", "I", false)
def tyX2 : Nat → FieldType := fun k => match k with
  | 0 => .array .int
  | 1 => .array .int
  | _ => .int
abbrev wsX20 : List Cond := u_ws RX2 TX2 3
theorem nmX2 : ∀ a, a < 3 → ∀ b, b < 3 → a ≠ b → (TX2 a).2.1 ≠ (TX2 b).2.1 := by decide +kernel
theorem tyX2_ok : ∀ k, k < 3 → parseFieldDescriptor (TX2 k).2.2.1 = some (tyX2 k) := by decide +kernel
abbrev cX2_init : ByteArray := prog_4_method_1_code
def yX2_init : MethodName := ⟨RX2, "<init>", "()V"⟩
abbrev cX2_addMix : ByteArray := prog_4_method_2_code
def yX2_addMix : MethodName := ⟨RX2, "addMix", "(IIII)I"⟩
abbrev cX2_strength : ByteArray := prog_4_method_3_code
def yX2_strength : MethodName := ⟨RX2, "strength", "(II)I"⟩
def RX3 : String := "SeparateScreens$Page"
def TX3 : u_T := fun k => match k with
  | 0 => ("SeparateScreens$Page", "columns", "I", true)
  | 1 => ("SeparateScreens$Page", "rows", "I", true)
  | 2 => ("SeparateScreens$Page", "points", "I", true)
  | 3 => ("SeparateScreens$Page", "inks", "LSeparateScreens$Inks;", true)
  | 4 => ("SeparateScreens$Page", "plates", "[I", true)
  | 5 => ("SeparateScreens$Page", "mostInk", "I", false)
  | _ => ("SeparateScreens$Page", "reach", "I", false)
def tyX3 : Nat → FieldType := fun k => match k with
  | 0 => .int
  | 1 => .int
  | 2 => .int
  | 3 => .object "SeparateScreens$Inks"
  | 4 => .array .int
  | 5 => .int
  | _ => .int
abbrev wsX30 : List Cond := u_ws RX3 TX3 7
theorem nmX3 : ∀ a, a < 7 → ∀ b, b < 7 → a ≠ b → (TX3 a).2.1 ≠ (TX3 b).2.1 := by decide +kernel
theorem tyX3_ok : ∀ k, k < 7 → parseFieldDescriptor (TX3 k).2.2.1 = some (tyX3 k) := by decide +kernel
abbrev cX3_init : ByteArray := prog_5_method_1_code
def yX3_init : MethodName := ⟨RX3, "<init>", "(II)V"⟩
abbrev cX3_byteAt : ByteArray := prog_5_method_2_code
def yX3_byteAt : MethodName := ⟨RX3, "byteAt", "(II)I"⟩
abbrev cX3_byteWith : ByteArray := prog_5_method_3_code
def yX3_byteWith : MethodName := ⟨RX3, "byteWith", "(III)I"⟩
abbrev cX3_paintPoint : ByteArray := prog_5_method_4_code
def yX3_paintPoint : MethodName := ⟨RX3, "paintPoint", "(IZ)V"⟩
abbrev cX3_sumAt : ByteArray := prog_5_method_5_code
def yX3_sumAt : MethodName := ⟨RX3, "sumAt", "(I)I"⟩
abbrev cX3_moveToBlack : ByteArray := prog_5_method_6_code
def yX3_moveToBlack : MethodName := ⟨RX3, "moveToBlack", "(II)V"⟩
abbrev cX3_shrinkToLimit : ByteArray := prog_5_method_7_code
def yX3_shrinkToLimit : MethodName := ⟨RX3, "shrinkToLimit", "(I)V"⟩
abbrev cX3_bandOf : ByteArray := prog_5_method_8_code
def yX3_bandOf : MethodName := ⟨RX3, "bandOf", "(III)I"⟩
abbrev cX3_lightness : ByteArray := prog_5_method_9_code
def yX3_lightness : MethodName := ⟨RX3, "lightness", "(I)I"⟩
abbrev cX3_unlike : ByteArray := prog_5_method_10_code
def yX3_unlike : MethodName := ⟨RX3, "unlike", "(II)Z"⟩
abbrev cX3_lenderOf : ByteArray := prog_5_method_11_code
def yX3_lenderOf : MethodName := ⟨RX3, "lenderOf", "(II)I"⟩
abbrev cX3_startsRun : ByteArray := prog_5_method_12_code
def yX3_startsRun : MethodName := ⟨RX3, "startsRun", "(II)Z"⟩
abbrev cX3_countRuns : ByteArray := prog_5_method_13_code
def yX3_countRuns : MethodName := ⟨RX3, "countRuns", "(I)I"⟩
abbrev cX3_startOfRun : ByteArray := prog_5_method_14_code
def yX3_startOfRun : MethodName := ⟨RX3, "startOfRun", "(II)I"⟩
abbrev cX3_lengthOfRun : ByteArray := prog_5_method_15_code
def yX3_lengthOfRun : MethodName := ⟨RX3, "lengthOfRun", "(II)I"⟩
def RX4 : String := "SeparateScreens"
def TX4 : u_T := fun k => match k with
  | 0 => ("SeparateScreens", "page", "LSeparateScreens$Page;", true)
  | 1 => ("SeparateScreens", "curve", "LSeparateScreens$Curve;", true)
  | 2 => ("SeparateScreens", "cells", "[LSeparateScreens$Cell;", true)
  | _ => ("SeparateScreens", "cellCount", "I", false)
def tyX4 : Nat → FieldType := fun k => match k with
  | 0 => .object "SeparateScreens$Page"
  | 1 => .object "SeparateScreens$Curve"
  | 2 => .array (.object "SeparateScreens$Cell")
  | _ => .int
abbrev wsX40 : List Cond := u_ws RX4 TX4 4
theorem nmX4 : ∀ a, a < 4 → ∀ b, b < 4 → a ≠ b → (TX4 a).2.1 ≠ (TX4 b).2.1 := by decide +kernel
theorem tyX4_ok : ∀ k, k < 4 → parseFieldDescriptor (TX4 k).2.2.1 = some (tyX4 k) := by decide +kernel
abbrev cX4_init : ByteArray := prog_1_method_1_code
def yX4_init : MethodName := ⟨RX4, "<init>", "(II)V"⟩
abbrev cX4_ink : ByteArray := prog_1_method_2_code
def yX4_ink : MethodName := ⟨RX4, "ink", "(IIII)I"⟩
abbrev cX4_colour : ByteArray := prog_1_method_3_code
def yX4_colour : MethodName := ⟨RX4, "colour", "(II)V"⟩
abbrev cX4_paint : ByteArray := prog_1_method_4_code
def yX4_paint : MethodName := ⟨RX4, "paint", "(IIIIZ)I"⟩
abbrev cX4_limit : ByteArray := prog_1_method_5_code
def yX4_limit : MethodName := ⟨RX4, "limit", "(I)I"⟩
abbrev cX4_plate : ByteArray := prog_1_method_6_code
def yX4_plate : MethodName := ⟨RX4, "plate", "(IIII)I"⟩
abbrev cX4_seen : ByteArray := prog_1_method_7_code
def yX4_seen : MethodName := ⟨RX4, "seen", "(IIIZ)I"⟩
abbrev cX4_lender : ByteArray := prog_1_method_8_code
def yX4_lender : MethodName := ⟨RX4, "lender", "(II)I"⟩
abbrev cX4_width : ByteArray := prog_1_method_9_code
def yX4_width : MethodName := ⟨RX4, "width", "(I)I"⟩
abbrev cX4_gain : ByteArray := prog_1_method_10_code
def yX4_gain : MethodName := ⟨RX4, "gain", "(II)V"⟩
abbrev cX4_cell : ByteArray := prog_1_method_11_code
def yX4_cell : MethodName := ⟨RX4, "cell", "(II)I"⟩
abbrev cX4_rank : ByteArray := prog_1_method_12_code
def yX4_rank : MethodName := ⟨RX4, "rank", "(II)I"⟩
abbrev cX4_same : ByteArray := prog_1_method_13_code
def yX4_same : MethodName := ⟨RX4, "same", "(III)I"⟩
abbrev cX4_prints : ByteArray := prog_1_method_14_code
def yX4_prints : MethodName := ⟨RX4, "prints", "(IIII)Z"⟩
abbrev cX4_covered : ByteArray := prog_1_method_15_code
def yX4_covered : MethodName := ⟨RX4, "covered", "(I)J"⟩
abbrev cX4_packed : ByteArray := prog_1_method_16_code
def yX4_packed : MethodName := ⟨RX4, "packed", "(II)I"⟩
abbrev cX4_isByte : ByteArray := prog_1_method_17_code
def yX4_isByte : MethodName := ⟨RX4, "isByte", "(I)Z"⟩
abbrev cX4_isTooFar : ByteArray := prog_1_method_18_code
def yX4_isTooFar : MethodName := ⟨RX4, "isTooFar", "(I)Z"⟩
abbrev cX4_checkInk : ByteArray := prog_1_method_19_code
def yX4_checkInk : MethodName := ⟨RX4, "checkInk", "(I)V"⟩
abbrev cX4_checkPoint : ByteArray := prog_1_method_20_code
def yX4_checkPoint : MethodName := ⟨RX4, "checkPoint", "(II)V"⟩
abbrev cX4_checkedCell : ByteArray := prog_1_method_21_code
def yX4_checkedCell : MethodName := ⟨RX4, "checkedCell", "(I)LSeparateScreens$Cell;"⟩
def RX5 : String := "SeparateScreensModel"
def TX5 : u_T := fun k => match k with
  | 0 => ("SeparateScreensModel", "thrown", "I", false)
  | 1 => ("SeparateScreensModel", "wide", "I", true)
  | 2 => ("SeparateScreensModel", "high", "I", true)
  | 3 => ("SeparateScreensModel", "inks", "I", false)
  | 4 => ("SeparateScreensModel", "mixes", "[I", true)
  | 5 => ("SeparateScreensModel", "bytes", "[I", true)
  | 6 => ("SeparateScreensModel", "colours", "[I", true)
  | 7 => ("SeparateScreensModel", "most", "I", false)
  | 8 => ("SeparateScreensModel", "reach", "I", false)
  | 9 => ("SeparateScreensModel", "told", "[I", true)
  | 10 => ("SeparateScreensModel", "tellings", "I", false)
  | 11 => ("SeparateScreensModel", "cells", "I", false)
  | 12 => ("SeparateScreensModel", "cellA", "[I", true)
  | 13 => ("SeparateScreensModel", "cellB", "[I", true)
  | 14 => ("SeparateScreensModel", "cellN", "[I", true)
  | 15 => ("SeparateScreensModel", "cellG", "[I", true)
  | 16 => ("SeparateScreensModel", "cellShift", "[I", true)
  | 17 => ("SeparateScreensModel", "sizes", "[I", true)
  | _ => ("SeparateScreensModel", "ranks", "[I", true)
def tyX5 : Nat → FieldType := fun k => match k with
  | 0 => .int
  | 1 => .int
  | 2 => .int
  | 3 => .int
  | 4 => .array .int
  | 5 => .array .int
  | 6 => .array .int
  | 7 => .int
  | 8 => .int
  | 9 => .array .int
  | 10 => .int
  | 11 => .int
  | 12 => .array .int
  | 13 => .array .int
  | 14 => .array .int
  | 15 => .array .int
  | 16 => .array .int
  | 17 => .array .int
  | _ => .array .int
abbrev wsX50 : List Cond := u_ws RX5 TX5 19
theorem nmX5 : ∀ a, a < 19 → ∀ b, b < 19 → a ≠ b → (TX5 a).2.1 ≠ (TX5 b).2.1 := by decide +kernel
theorem tyX5_ok : ∀ k, k < 19 → parseFieldDescriptor (TX5 k).2.2.1 = some (tyX5 k) := by decide +kernel
abbrev cX5_init : ByteArray := prog_7_method_1_code
def yX5_init : MethodName := ⟨RX5, "<init>", "(II)V"⟩
abbrev cX5_thrown : ByteArray := prog_7_method_2_code
def yX5_thrown : MethodName := ⟨RX5, "thrown", "()I"⟩
abbrev cX5_isByte : ByteArray := prog_7_method_3_code
def yX5_isByte : MethodName := ⟨RX5, "isByte", "(I)Z"⟩
abbrev cX5_isInk : ByteArray := prog_7_method_4_code
def yX5_isInk : MethodName := ⟨RX5, "isInk", "(I)Z"⟩
abbrev cX5_isPoint : ByteArray := prog_7_method_5_code
def yX5_isPoint : MethodName := ⟨RX5, "isPoint", "(II)Z"⟩
abbrev cX5_byteAt : ByteArray := prog_7_method_6_code
def yX5_byteAt : MethodName := ⟨RX5, "byteAt", "(III)I"⟩
abbrev cX5_ink : ByteArray := prog_7_method_7_code
def yX5_ink : MethodName := ⟨RX5, "ink", "(IIII)I"⟩
abbrev cX5_colour : ByteArray := prog_7_method_8_code
def yX5_colour : MethodName := ⟨RX5, "colour", "(II)V"⟩
abbrev cX5_less : ByteArray := prog_7_method_9_code
def yX5_less : MethodName := ⟨RX5, "less", "(II)I"⟩
abbrev cX5_more : ByteArray := prog_7_method_10_code
def yX5_more : MethodName := ⟨RX5, "more", "(II)I"⟩
abbrev cX5_sumAt : ByteArray := prog_7_method_11_code
def yX5_sumAt : MethodName := ⟨RX5, "sumAt", "(I)I"⟩
abbrev cX5_bind : ByteArray := prog_7_method_12_code
def yX5_bind : MethodName := ⟨RX5, "bind", "(I)V"⟩
abbrev cX5_paint : ByteArray := prog_7_method_13_code
def yX5_paint : MethodName := ⟨RX5, "paint", "(IIIIZ)I"⟩
abbrev cX5_limit : ByteArray := prog_7_method_14_code
def yX5_limit : MethodName := ⟨RX5, "limit", "(I)I"⟩
abbrev cX5_inkOf : ByteArray := prog_7_method_15_code
def yX5_inkOf : MethodName := ⟨RX5, "inkOf", "(IIII)I"⟩
abbrev cX5_bandOf : ByteArray := prog_7_method_16_code
def yX5_bandOf : MethodName := ⟨RX5, "bandOf", "(IIII)I"⟩
abbrev cX5_lightness : ByteArray := prog_7_method_17_code
def yX5_lightness : MethodName := ⟨RX5, "lightness", "(II)I"⟩
abbrev cX5_areUnlike : ByteArray := prog_7_method_18_code
def yX5_areUnlike : MethodName := ⟨RX5, "areUnlike", "(IIII)Z"⟩
abbrev cX5_lenderOf : ByteArray := prog_7_method_19_code
def yX5_lenderOf : MethodName := ⟨RX5, "lenderOf", "(II)I"⟩
abbrev cX5_curve : ByteArray := prog_7_method_20_code
def yX5_curve : MethodName := ⟨RX5, "curve", "(I)I"⟩
abbrev cX5_plate : ByteArray := prog_7_method_21_code
def yX5_plate : MethodName := ⟨RX5, "plate", "(IIII)I"⟩
abbrev cX5_seen : ByteArray := prog_7_method_22_code
def yX5_seen : MethodName := ⟨RX5, "seen", "(IIIZ)I"⟩
abbrev cX5_lender : ByteArray := prog_7_method_23_code
def yX5_lender : MethodName := ⟨RX5, "lender", "(II)I"⟩
abbrev cX5_width : ByteArray := prog_7_method_24_code
def yX5_width : MethodName := ⟨RX5, "width", "(I)I"⟩
abbrev cX5_gain : ByteArray := prog_7_method_25_code
def yX5_gain : MethodName := ⟨RX5, "gain", "(II)V"⟩
abbrev cX5_floorOf : ByteArray := prog_7_method_26_code
def yX5_floorOf : MethodName := ⟨RX5, "floorOf", "(II)I"⟩
abbrev cX5_sameOf : ByteArray := prog_7_method_27_code
def yX5_sameOf : MethodName := ⟨RX5, "sameOf", "(III)I"⟩
abbrev cX5_size : ByteArray := prog_7_method_28_code
def yX5_size : MethodName := ⟨RX5, "size", "(I)I"⟩
abbrev cX5_common : ByteArray := prog_7_method_29_code
def yX5_common : MethodName := ⟨RX5, "common", "(II)I"⟩
abbrev cX5_shiftOf : ByteArray := prog_7_method_30_code
def yX5_shiftOf : MethodName := ⟨RX5, "shiftOf", "(III)I"⟩
abbrev cX5_cell : ByteArray := prog_7_method_31_code
def yX5_cell : MethodName := ⟨RX5, "cell", "(II)I"⟩
abbrev cX5_isCell : ByteArray := prog_7_method_32_code
def yX5_isCell : MethodName := ⟨RX5, "isCell", "(I)Z"⟩
abbrev cX5_rank : ByteArray := prog_7_method_33_code
def yX5_rank : MethodName := ⟨RX5, "rank", "(II)I"⟩
abbrev cX5_isNear : ByteArray := prog_7_method_34_code
def yX5_isNear : MethodName := ⟨RX5, "isNear", "(I)Z"⟩
abbrev cX5_same : ByteArray := prog_7_method_35_code
def yX5_same : MethodName := ⟨RX5, "same", "(III)I"⟩
abbrev cX5_prints : ByteArray := prog_7_method_36_code
def yX5_prints : MethodName := ⟨RX5, "prints", "(IIII)Z"⟩
abbrev cX5_covered : ByteArray := prog_7_method_37_code
def yX5_covered : MethodName := ⟨RX5, "covered", "(I)J"⟩
abbrev cX5_begins : ByteArray := prog_7_method_38_code
def yX5_begins : MethodName := ⟨RX5, "begins", "(III)Z"⟩
abbrev cX5_runsOf : ByteArray := prog_7_method_39_code
def yX5_runsOf : MethodName := ⟨RX5, "runsOf", "(I)I"⟩
abbrev cX5_packed : ByteArray := prog_7_method_40_code
def yX5_packed : MethodName := ⟨RX5, "packed", "(II)I"⟩
def RJx00060 : String := "java/lang/ArrayIndexOutOfBoundsException"
def TJx00060 : u_T := fun k => match k with
  | 0 => ("java/lang/Throwable", "cause", "Ljava/lang/Throwable;", false)
  | 1 => ("java/lang/Throwable", "stackTrace", "[Ljava/lang/StackTraceElement;", false)
  | 2 => ("java/lang/Throwable", "suppressedExceptions", "Ljava/util/List;", false)
  | 3 => ("java/lang/Throwable", "detailMessage", "Ljava/lang/String;", false)
  | 4 => ("java/lang/Throwable", "backtrace", "Ljava/lang/Object;", false)
  | _ => ("java/lang/Throwable", "depth", "I", false)
def tyJx00060 : Nat → FieldType := fun k => match k with
  | 0 => .object "java/lang/Throwable"
  | 1 => .array (.object "java/lang/StackTraceElement")
  | 2 => .object "java/util/List"
  | 3 => .object "java/lang/String"
  | 4 => .object "java/lang/Object"
  | _ => .int
abbrev wsJx000600 : List Cond := u_ws RJx00060 TJx00060 6
theorem nmJx00060 : ∀ a, a < 6 → ∀ b, b < 6 → a ≠ b → (TJx00060 a).2.1 ≠ (TJx00060 b).2.1 := by decide +kernel
theorem tyJx00060_ok : ∀ k, k < 6 → parseFieldDescriptor (TJx00060 k).2.2.1 = some (tyJx00060 k) := by decide +kernel
abbrev cJx00060_init_a7421 : ByteArray := prog_9_method_2_code
def yJx00060_init_a7421 : MethodName := ⟨RJx00060, "<init>", "(Ljava/lang/String;)V"⟩
def RJ9 : String := "java/lang/Math"
def TJ9 : u_T := fun k => match k with
  | _ => ("", "", "", false)
def tyJ9 : Nat → FieldType := fun k => match k with
  | _ => .int
abbrev wsJ90 : List Cond := u_ws RJ9 TJ9 0
theorem nmJ9 : ∀ a, a < 0 → ∀ b, b < 0 → a ≠ b → (TJ9 a).2.1 ≠ (TJ9 b).2.1 := by decide +kernel
theorem tyJ9_ok : ∀ k, k < 0 → parseFieldDescriptor (TJ9 k).2.2.1 = some (tyJ9 k) := by decide +kernel
abbrev cJ9_floorDiv_7cf53 : ByteArray := prog_13_method_47_code
def yJ9_floorDiv_7cf53 : MethodName := ⟨RJ9, "floorDiv", "(II)I"⟩
abbrev cJ9_floorMod_7cf53 : ByteArray := prog_13_method_50_code
def yJ9_floorMod_7cf53 : MethodName := ⟨RJ9, "floorMod", "(II)I"⟩
abbrev cJ9_max_7cf53 : ByteArray := prog_13_method_65_code
def yJ9_max_7cf53 : MethodName := ⟨RJ9, "max", "(II)I"⟩
abbrev cJ9_min_7cf53 : ByteArray := prog_13_method_69_code
def yJ9_min_7cf53 : MethodName := ⟨RJ9, "min", "(II)I"⟩
def RJ0 : String := "java/lang/String"
def TJ0 : u_T := fun k => match k with
  | _ => ("", "", "", false)
def tyJ0 : Nat → FieldType := fun k => match k with
  | _ => .int
abbrev wsJ00 : List Cond := u_ws RJ0 TJ0 0
theorem nmJ0 : ∀ a, a < 0 → ∀ b, b < 0 → a ≠ b → (TJ0 a).2.1 ≠ (TJ0 b).2.1 := by decide +kernel
theorem tyJ0_ok : ∀ k, k < 0 → parseFieldDescriptor (TJ0 k).2.2.1 = some (tyJ0 k) := by decide +kernel
def RL : String := "SeparateScreensLaw"
abbrev cL_cell : ByteArray := method_2_code
def yL_cell : MethodName := ⟨RL, "cell", "([II)I"⟩
abbrev cL_ink : ByteArray := method_3_code
def yL_ink : MethodName := ⟨RL, "ink", "(LSeparateScreens;IIII[J)I"⟩
abbrev cL_colour : ByteArray := method_4_code
def yL_colour : MethodName := ⟨RL, "colour", "(LSeparateScreens;II)I"⟩
abbrev cL_limit : ByteArray := method_5_code
def yL_limit : MethodName := ⟨RL, "limit", "(LSeparateScreens;I[J)I"⟩
abbrev cL_plate : ByteArray := method_6_code
def yL_plate : MethodName := ⟨RL, "plate", "(LSeparateScreens;IIII[J)I"⟩
abbrev cL_seen : ByteArray := method_7_code
def yL_seen : MethodName := ⟨RL, "seen", "(LSeparateScreens;IIIZ[J)I"⟩
abbrev cL_lender : ByteArray := method_8_code
def yL_lender : MethodName := ⟨RL, "lender", "(LSeparateScreens;II[J)I"⟩
abbrev cL_width : ByteArray := method_9_code
def yL_width : MethodName := ⟨RL, "width", "(LSeparateScreens;I[J)I"⟩
abbrev cL_gain : ByteArray := method_10_code
def yL_gain : MethodName := ⟨RL, "gain", "(LSeparateScreens;II)I"⟩
abbrev cL_cell_ : ByteArray := method_11_code
def yL_cell_ : MethodName := ⟨RL, "cell", "(LSeparateScreens;II[J)I"⟩
abbrev cL_rank : ByteArray := method_12_code
def yL_rank : MethodName := ⟨RL, "rank", "(LSeparateScreens;II[J)I"⟩
abbrev cL_same : ByteArray := method_13_code
def yL_same : MethodName := ⟨RL, "same", "(LSeparateScreens;III[J)I"⟩
abbrev cL_prints : ByteArray := method_14_code
def yL_prints : MethodName := ⟨RL, "prints", "(LSeparateScreens;IIII[J)I"⟩
abbrev cL_covered : ByteArray := method_15_code
def yL_covered : MethodName := ⟨RL, "covered", "(LSeparateScreens;I[J)I"⟩
abbrev cL_packed : ByteArray := method_16_code
def yL_packed : MethodName := ⟨RL, "packed", "(LSeparateScreens;II[J)I"⟩
abbrev cL_law : ByteArray := code
def yL_law : MethodName := ⟨RL, "law", "([I)Z"⟩
abbrev vwCl : List vw_C := [(RJx00060, TJx00060, 6), (RX0, TX0, 4), (RX1, TX1, 3), (RX2, TX2, 3), (RX3, TX3, 7), (RX4, TX4, 4), (RX5, TX5, 19)]
end
section
theorem dX0_init_0 : decode cX0_init 0 = .ok (.aload_n 0, 1) := by decide +kernel
theorem dX0_init_1 : decode cX0_init 1 = .ok (.invokespecial 3, 3) := by decide +kernel
theorem dX0_init_4 : decode cX0_init 4 = .ok (.aload_n 0, 1) := by decide +kernel
theorem dX0_init_5 : decode cX0_init 5 = .ok (.iload_n 1, 1) := by decide +kernel
theorem dX0_init_6 : decode cX0_init 6 = .ok (.iload_n 2, 1) := by decide +kernel
theorem dX0_init_7 : decode cX0_init 7 = .ok (.invokestatic 9, 3) := by decide +kernel
theorem dX0_init_10 : decode cX0_init 10 = .ok (.putfield 15, 3) := by decide +kernel
theorem dX0_init_13 : decode cX0_init 13 = .ok (.aload_n 0, 1) := by decide +kernel
theorem dX0_init_14 : decode cX0_init 14 = .ok (.iconst 1, 1) := by decide +kernel
theorem dX0_init_15 : decode cX0_init 15 = .ok (.iload_n 1, 1) := by decide +kernel
theorem dX0_init_16 : decode cX0_init 16 = .ok (.iload_n 1, 1) := by decide +kernel
theorem dX0_init_17 : decode cX0_init 17 = .ok (.imul, 1) := by decide +kernel
theorem dX0_init_18 : decode cX0_init 18 = .ok (.iload_n 2, 1) := by decide +kernel
theorem dX0_init_19 : decode cX0_init 19 = .ok (.iload_n 2, 1) := by decide +kernel
theorem dX0_init_20 : decode cX0_init 20 = .ok (.imul, 1) := by decide +kernel
theorem dX0_init_21 : decode cX0_init 21 = .ok (.iadd, 1) := by decide +kernel
theorem dX0_init_22 : decode cX0_init 22 = .ok (.aload_n 0, 1) := by decide +kernel
theorem dX0_init_23 : decode cX0_init 23 = .ok (.getfield 15, 3) := by decide +kernel
theorem dX0_init_26 : decode cX0_init 26 = .ok (.idiv, 1) := by decide +kernel
theorem dX0_init_27 : decode cX0_init 27 = .ok (.invokestatic 19, 3) := by decide +kernel
theorem dX0_init_30 : decode cX0_init 30 = .ok (.putfield 24, 3) := by decide +kernel
theorem dX0_init_33 : decode cX0_init 33 = .ok (.aload_n 0, 1) := by decide +kernel
theorem dX0_init_34 : decode cX0_init 34 = .ok (.iload_n 1, 1) := by decide +kernel
theorem dX0_init_35 : decode cX0_init 35 = .ok (.iload_n 2, 1) := by decide +kernel
theorem dX0_init_36 : decode cX0_init 36 = .ok (.aload_n 0, 1) := by decide +kernel
theorem dX0_init_37 : decode cX0_init 37 = .ok (.getfield 15, 3) := by decide +kernel
theorem dX0_init_40 : decode cX0_init 40 = .ok (.invokestatic 27, 3) := by decide +kernel
theorem dX0_init_43 : decode cX0_init 43 = .ok (.aload_n 0, 1) := by decide +kernel
theorem dX0_init_44 : decode cX0_init 44 = .ok (.getfield 24, 3) := by decide +kernel
theorem dX0_init_47 : decode cX0_init 47 = .ok (.invokestatic 31, 3) := by decide +kernel
theorem dX0_init_50 : decode cX0_init 50 = .ok (.putfield 34, 3) := by decide +kernel
theorem dX0_init_53 : decode cX0_init 53 = .ok (.aload_n 0, 1) := by decide +kernel
theorem dX0_init_54 : decode cX0_init 54 = .ok (.aload_n 0, 1) := by decide +kernel
theorem dX0_init_55 : decode cX0_init 55 = .ok (.getfield 15, 3) := by decide +kernel
theorem dX0_init_58 : decode cX0_init 58 = .ok (.aload_n 0, 1) := by decide +kernel
theorem dX0_init_59 : decode cX0_init 59 = .ok (.getfield 24, 3) := by decide +kernel
theorem dX0_init_62 : decode cX0_init 62 = .ok (.imul, 1) := by decide +kernel
theorem dX0_init_63 : decode cX0_init 63 = .ok (.newarray .int, 2) := by decide +kernel
theorem dX0_init_65 : decode cX0_init 65 = .ok (.putfield 37, 3) := by decide +kernel
theorem dX0_init_68 : decode cX0_init 68 = .ok (.aload_n 0, 1) := by decide +kernel
theorem dX0_init_69 : decode cX0_init 69 = .ok (.aload_n 0, 1) := by decide +kernel
theorem dX0_init_70 : decode cX0_init 70 = .ok (.invokevirtual 41, 3) := by decide +kernel
theorem dX0_init_73 : decode cX0_init 73 = .ok (.invokevirtual 45, 3) := by decide +kernel
theorem dX0_init_76 : decode cX0_init 76 = .ok (.return_, 1) := by decide +kernel
theorem dX0_commonDivisor_0 : decode cX0_commonDivisor 0 = .ok (.bipush 12, 2) := by decide +kernel
theorem dX0_commonDivisor_2 : decode cX0_commonDivisor 2 = .ok (.istore_n 2, 1) := by decide +kernel
theorem dX0_commonDivisor_3 : decode cX0_commonDivisor 3 = .ok (.iload_n 2, 1) := by decide +kernel
theorem dX0_commonDivisor_4 : decode cX0_commonDivisor 4 = .ok (.iconst 1, 1) := by decide +kernel
theorem dX0_commonDivisor_5 : decode cX0_commonDivisor 5 = .ok (.if_icmp .le 23, 3) := by decide +kernel
theorem dX0_commonDivisor_8 : decode cX0_commonDivisor 8 = .ok (.iload_n 0, 1) := by decide +kernel
theorem dX0_commonDivisor_9 : decode cX0_commonDivisor 9 = .ok (.iload_n 2, 1) := by decide +kernel
theorem dX0_commonDivisor_10 : decode cX0_commonDivisor 10 = .ok (.irem, 1) := by decide +kernel
theorem dX0_commonDivisor_11 : decode cX0_commonDivisor 11 = .ok (.ifCond .ne 11, 3) := by decide +kernel
theorem dX0_commonDivisor_14 : decode cX0_commonDivisor 14 = .ok (.iload_n 1, 1) := by decide +kernel
theorem dX0_commonDivisor_15 : decode cX0_commonDivisor 15 = .ok (.iload_n 2, 1) := by decide +kernel
theorem dX0_commonDivisor_16 : decode cX0_commonDivisor 16 = .ok (.irem, 1) := by decide +kernel
theorem dX0_commonDivisor_17 : decode cX0_commonDivisor 17 = .ok (.ifCond .ne 5, 3) := by decide +kernel
theorem dX0_commonDivisor_20 : decode cX0_commonDivisor 20 = .ok (.iload_n 2, 1) := by decide +kernel
theorem dX0_commonDivisor_21 : decode cX0_commonDivisor 21 = .ok (.ireturn, 1) := by decide +kernel
theorem dX0_commonDivisor_22 : decode cX0_commonDivisor 22 = .ok (.iinc 2 (-1), 3) := by decide +kernel
theorem dX0_commonDivisor_25 : decode cX0_commonDivisor 25 = .ok (.goto (-22), 3) := by decide +kernel
theorem dX0_commonDivisor_28 : decode cX0_commonDivisor 28 = .ok (.iconst 1, 1) := by decide +kernel
theorem dX0_commonDivisor_29 : decode cX0_commonDivisor 29 = .ok (.ireturn, 1) := by decide +kernel
theorem dX0_sideways_0 : decode cX0_sideways 0 = .ok (.bipush (-12), 2) := by decide +kernel
theorem dX0_sideways_2 : decode cX0_sideways 2 = .ok (.istore_n 3, 1) := by decide +kernel
theorem dX0_sideways_3 : decode cX0_sideways 3 = .ok (.iload_n 3, 1) := by decide +kernel
theorem dX0_sideways_4 : decode cX0_sideways 4 = .ok (.bipush 12, 2) := by decide +kernel
theorem dX0_sideways_6 : decode cX0_sideways 6 = .ok (.if_icmp .gt 47, 3) := by decide +kernel
theorem dX0_sideways_9 : decode cX0_sideways 9 = .ok (.bipush (-12), 2) := by decide +kernel
theorem dX0_sideways_11 : decode cX0_sideways 11 = .ok (.istore 4, 2) := by decide +kernel
theorem dX0_sideways_13 : decode cX0_sideways 13 = .ok (.iload 4, 2) := by decide +kernel
theorem dX0_sideways_15 : decode cX0_sideways 15 = .ok (.bipush 12, 2) := by decide +kernel
theorem dX0_sideways_17 : decode cX0_sideways 17 = .ok (.if_icmp .gt 30, 3) := by decide +kernel
theorem dX0_sideways_20 : decode cX0_sideways 20 = .ok (.iload_n 1, 1) := by decide +kernel
theorem dX0_sideways_21 : decode cX0_sideways 21 = .ok (.iload_n 3, 1) := by decide +kernel
theorem dX0_sideways_22 : decode cX0_sideways 22 = .ok (.imul, 1) := by decide +kernel
theorem dX0_sideways_23 : decode cX0_sideways 23 = .ok (.iload_n 0, 1) := by decide +kernel
theorem dX0_sideways_24 : decode cX0_sideways 24 = .ok (.iload 4, 2) := by decide +kernel
theorem dX0_sideways_26 : decode cX0_sideways 26 = .ok (.imul, 1) := by decide +kernel
theorem dX0_sideways_27 : decode cX0_sideways 27 = .ok (.iadd, 1) := by decide +kernel
theorem dX0_sideways_28 : decode cX0_sideways 28 = .ok (.iload_n 2, 1) := by decide +kernel
theorem dX0_sideways_29 : decode cX0_sideways 29 = .ok (.if_icmp .ne 12, 3) := by decide +kernel
theorem dX0_sideways_32 : decode cX0_sideways 32 = .ok (.iload_n 0, 1) := by decide +kernel
theorem dX0_sideways_33 : decode cX0_sideways 33 = .ok (.iload_n 3, 1) := by decide +kernel
theorem dX0_sideways_34 : decode cX0_sideways 34 = .ok (.imul, 1) := by decide +kernel
theorem dX0_sideways_35 : decode cX0_sideways 35 = .ok (.iload_n 1, 1) := by decide +kernel
theorem dX0_sideways_36 : decode cX0_sideways 36 = .ok (.iload 4, 2) := by decide +kernel
theorem dX0_sideways_38 : decode cX0_sideways 38 = .ok (.imul, 1) := by decide +kernel
theorem dX0_sideways_39 : decode cX0_sideways 39 = .ok (.isub, 1) := by decide +kernel
theorem dX0_sideways_40 : decode cX0_sideways 40 = .ok (.ireturn, 1) := by decide +kernel
theorem dX0_sideways_41 : decode cX0_sideways 41 = .ok (.iinc 4 1, 3) := by decide +kernel
theorem dX0_sideways_44 : decode cX0_sideways 44 = .ok (.goto (-31), 3) := by decide +kernel
theorem dX0_sideways_47 : decode cX0_sideways 47 = .ok (.iinc 3 1, 3) := by decide +kernel
theorem dX0_sideways_50 : decode cX0_sideways 50 = .ok (.goto (-47), 3) := by decide +kernel
theorem dX0_sideways_53 : decode cX0_sideways 53 = .ok (.iconst 0, 1) := by decide +kernel
theorem dX0_sideways_54 : decode cX0_sideways 54 = .ok (.ireturn, 1) := by decide +kernel
theorem dX0_numberOf_0 : decode cX0_numberOf 0 = .ok (.iload_n 2, 1) := by decide +kernel
theorem dX0_numberOf_1 : decode cX0_numberOf 1 = .ok (.aload_n 0, 1) := by decide +kernel
theorem dX0_numberOf_2 : decode cX0_numberOf 2 = .ok (.getfield 15, 3) := by decide +kernel
theorem dX0_numberOf_5 : decode cX0_numberOf 5 = .ok (.invokestatic 49, 3) := by decide +kernel
theorem dX0_numberOf_8 : decode cX0_numberOf 8 = .ok (.istore_n 3, 1) := by decide +kernel
theorem dX0_numberOf_9 : decode cX0_numberOf 9 = .ok (.iload_n 1, 1) := by decide +kernel
theorem dX0_numberOf_10 : decode cX0_numberOf 10 = .ok (.iload_n 3, 1) := by decide +kernel
theorem dX0_numberOf_11 : decode cX0_numberOf 11 = .ok (.aload_n 0, 1) := by decide +kernel
theorem dX0_numberOf_12 : decode cX0_numberOf 12 = .ok (.getfield 34, 3) := by decide +kernel
theorem dX0_numberOf_15 : decode cX0_numberOf 15 = .ok (.imul, 1) := by decide +kernel
theorem dX0_numberOf_16 : decode cX0_numberOf 16 = .ok (.isub, 1) := by decide +kernel
theorem dX0_numberOf_17 : decode cX0_numberOf 17 = .ok (.aload_n 0, 1) := by decide +kernel
theorem dX0_numberOf_18 : decode cX0_numberOf 18 = .ok (.getfield 24, 3) := by decide +kernel
theorem dX0_numberOf_21 : decode cX0_numberOf 21 = .ok (.invokestatic 31, 3) := by decide +kernel
theorem dX0_numberOf_24 : decode cX0_numberOf 24 = .ok (.iload_n 2, 1) := by decide +kernel
theorem dX0_numberOf_25 : decode cX0_numberOf 25 = .ok (.iload_n 3, 1) := by decide +kernel
theorem dX0_numberOf_26 : decode cX0_numberOf 26 = .ok (.aload_n 0, 1) := by decide +kernel
theorem dX0_numberOf_27 : decode cX0_numberOf 27 = .ok (.getfield 15, 3) := by decide +kernel
theorem dX0_numberOf_30 : decode cX0_numberOf 30 = .ok (.imul, 1) := by decide +kernel
theorem dX0_numberOf_31 : decode cX0_numberOf 31 = .ok (.isub, 1) := by decide +kernel
theorem dX0_numberOf_32 : decode cX0_numberOf 32 = .ok (.aload_n 0, 1) := by decide +kernel
theorem dX0_numberOf_33 : decode cX0_numberOf 33 = .ok (.getfield 24, 3) := by decide +kernel
theorem dX0_numberOf_36 : decode cX0_numberOf 36 = .ok (.imul, 1) := by decide +kernel
theorem dX0_numberOf_37 : decode cX0_numberOf 37 = .ok (.iadd, 1) := by decide +kernel
theorem dX0_numberOf_38 : decode cX0_numberOf 38 = .ok (.ireturn, 1) := by decide +kernel
theorem dX0_leastSizes_0 : decode cX0_leastSizes 0 = .ok (.aload_n 0, 1) := by decide +kernel
theorem dX0_leastSizes_1 : decode cX0_leastSizes 1 = .ok (.getfield 37, 3) := by decide +kernel
theorem dX0_leastSizes_4 : decode cX0_leastSizes 4 = .ok (.arraylength, 1) := by decide +kernel
theorem dX0_leastSizes_5 : decode cX0_leastSizes 5 = .ok (.newarray .int, 2) := by decide +kernel
theorem dX0_leastSizes_7 : decode cX0_leastSizes 7 = .ok (.astore_n 1, 1) := by decide +kernel
theorem dX0_leastSizes_8 : decode cX0_leastSizes 8 = .ok (.iconst 0, 1) := by decide +kernel
theorem dX0_leastSizes_9 : decode cX0_leastSizes 9 = .ok (.istore_n 2, 1) := by decide +kernel
theorem dX0_leastSizes_10 : decode cX0_leastSizes 10 = .ok (.iload_n 2, 1) := by decide +kernel
theorem dX0_leastSizes_11 : decode cX0_leastSizes 11 = .ok (.aload_n 1, 1) := by decide +kernel
theorem dX0_leastSizes_12 : decode cX0_leastSizes 12 = .ok (.arraylength, 1) := by decide +kernel
theorem dX0_leastSizes_13 : decode cX0_leastSizes 13 = .ok (.if_icmp .ge 15, 3) := by decide +kernel
theorem dX0_leastSizes_16 : decode cX0_leastSizes 16 = .ok (.aload_n 1, 1) := by decide +kernel
theorem dX0_leastSizes_17 : decode cX0_leastSizes 17 = .ok (.iload_n 2, 1) := by decide +kernel
theorem dX0_leastSizes_18 : decode cX0_leastSizes 18 = .ok (.sipush 288, 3) := by decide +kernel
theorem dX0_leastSizes_21 : decode cX0_leastSizes 21 = .ok (.iastore, 1) := by decide +kernel
theorem dX0_leastSizes_22 : decode cX0_leastSizes 22 = .ok (.iinc 2 1, 3) := by decide +kernel
theorem dX0_leastSizes_25 : decode cX0_leastSizes 25 = .ok (.goto (-15), 3) := by decide +kernel
theorem dX0_leastSizes_28 : decode cX0_leastSizes 28 = .ok (.bipush (-12), 2) := by decide +kernel
theorem dX0_leastSizes_30 : decode cX0_leastSizes 30 = .ok (.istore_n 2, 1) := by decide +kernel
theorem dX0_leastSizes_31 : decode cX0_leastSizes 31 = .ok (.iload_n 2, 1) := by decide +kernel
theorem dX0_leastSizes_32 : decode cX0_leastSizes 32 = .ok (.bipush 12, 2) := by decide +kernel
theorem dX0_leastSizes_34 : decode cX0_leastSizes 34 = .ok (.if_icmp .gt 50, 3) := by decide +kernel
theorem dX0_leastSizes_37 : decode cX0_leastSizes 37 = .ok (.bipush (-12), 2) := by decide +kernel
theorem dX0_leastSizes_39 : decode cX0_leastSizes 39 = .ok (.istore_n 3, 1) := by decide +kernel
theorem dX0_leastSizes_40 : decode cX0_leastSizes 40 = .ok (.iload_n 3, 1) := by decide +kernel
theorem dX0_leastSizes_41 : decode cX0_leastSizes 41 = .ok (.bipush 12, 2) := by decide +kernel
theorem dX0_leastSizes_43 : decode cX0_leastSizes 43 = .ok (.if_icmp .gt 35, 3) := by decide +kernel
theorem dX0_leastSizes_46 : decode cX0_leastSizes 46 = .ok (.aload_n 0, 1) := by decide +kernel
theorem dX0_leastSizes_47 : decode cX0_leastSizes 47 = .ok (.iload_n 3, 1) := by decide +kernel
theorem dX0_leastSizes_48 : decode cX0_leastSizes 48 = .ok (.iload_n 2, 1) := by decide +kernel
theorem dX0_leastSizes_49 : decode cX0_leastSizes 49 = .ok (.invokevirtual 52, 3) := by decide +kernel
theorem dX0_leastSizes_52 : decode cX0_leastSizes 52 = .ok (.istore 4, 2) := by decide +kernel
theorem dX0_leastSizes_54 : decode cX0_leastSizes 54 = .ok (.aload_n 1, 1) := by decide +kernel
theorem dX0_leastSizes_55 : decode cX0_leastSizes 55 = .ok (.iload 4, 2) := by decide +kernel
theorem dX0_leastSizes_57 : decode cX0_leastSizes 57 = .ok (.aload_n 1, 1) := by decide +kernel
theorem dX0_leastSizes_58 : decode cX0_leastSizes 58 = .ok (.iload 4, 2) := by decide +kernel
theorem dX0_leastSizes_60 : decode cX0_leastSizes 60 = .ok (.iaload, 1) := by decide +kernel
theorem dX0_leastSizes_61 : decode cX0_leastSizes 61 = .ok (.iload_n 3, 1) := by decide +kernel
theorem dX0_leastSizes_62 : decode cX0_leastSizes 62 = .ok (.iload_n 3, 1) := by decide +kernel
theorem dX0_leastSizes_63 : decode cX0_leastSizes 63 = .ok (.imul, 1) := by decide +kernel
theorem dX0_leastSizes_64 : decode cX0_leastSizes 64 = .ok (.iload_n 2, 1) := by decide +kernel
theorem dX0_leastSizes_65 : decode cX0_leastSizes 65 = .ok (.iload_n 2, 1) := by decide +kernel
theorem dX0_leastSizes_66 : decode cX0_leastSizes 66 = .ok (.imul, 1) := by decide +kernel
theorem dX0_leastSizes_67 : decode cX0_leastSizes 67 = .ok (.iadd, 1) := by decide +kernel
theorem dX0_leastSizes_68 : decode cX0_leastSizes 68 = .ok (.invokestatic 55, 3) := by decide +kernel
theorem dX0_leastSizes_71 : decode cX0_leastSizes 71 = .ok (.iastore, 1) := by decide +kernel
theorem dX0_leastSizes_72 : decode cX0_leastSizes 72 = .ok (.iinc 3 1, 3) := by decide +kernel
theorem dX0_leastSizes_75 : decode cX0_leastSizes 75 = .ok (.goto (-35), 3) := by decide +kernel
theorem dX0_leastSizes_78 : decode cX0_leastSizes 78 = .ok (.iinc 2 1, 3) := by decide +kernel
theorem dX0_leastSizes_81 : decode cX0_leastSizes 81 = .ok (.goto (-50), 3) := by decide +kernel
theorem dX0_leastSizes_84 : decode cX0_leastSizes 84 = .ok (.aload_n 1, 1) := by decide +kernel
theorem dX0_leastSizes_85 : decode cX0_leastSizes 85 = .ok (.areturn, 1) := by decide +kernel
theorem dX0_rankBySize_0 : decode cX0_rankBySize 0 = .ok (.sipush 290, 3) := by decide +kernel
theorem dX0_rankBySize_3 : decode cX0_rankBySize 3 = .ok (.newarray .int, 2) := by decide +kernel
theorem dX0_rankBySize_5 : decode cX0_rankBySize 5 = .ok (.astore_n 2, 1) := by decide +kernel
theorem dX0_rankBySize_6 : decode cX0_rankBySize 6 = .ok (.aload_n 1, 1) := by decide +kernel
theorem dX0_rankBySize_7 : decode cX0_rankBySize 7 = .ok (.astore_n 3, 1) := by decide +kernel
theorem dX0_rankBySize_8 : decode cX0_rankBySize 8 = .ok (.aload_n 3, 1) := by decide +kernel
theorem dX0_rankBySize_9 : decode cX0_rankBySize 9 = .ok (.arraylength, 1) := by decide +kernel
theorem dX0_rankBySize_10 : decode cX0_rankBySize 10 = .ok (.istore 4, 2) := by decide +kernel
theorem dX0_rankBySize_12 : decode cX0_rankBySize 12 = .ok (.iconst 0, 1) := by decide +kernel
theorem dX0_rankBySize_13 : decode cX0_rankBySize 13 = .ok (.istore 5, 2) := by decide +kernel
theorem dX0_rankBySize_15 : decode cX0_rankBySize 15 = .ok (.iload 5, 2) := by decide +kernel
theorem dX0_rankBySize_17 : decode cX0_rankBySize 17 = .ok (.iload 4, 2) := by decide +kernel
theorem dX0_rankBySize_19 : decode cX0_rankBySize 19 = .ok (.if_icmp .ge 25, 3) := by decide +kernel
theorem dX0_rankBySize_22 : decode cX0_rankBySize 22 = .ok (.aload_n 3, 1) := by decide +kernel
theorem dX0_rankBySize_23 : decode cX0_rankBySize 23 = .ok (.iload 5, 2) := by decide +kernel
theorem dX0_rankBySize_25 : decode cX0_rankBySize 25 = .ok (.iaload, 1) := by decide +kernel
theorem dX0_rankBySize_26 : decode cX0_rankBySize 26 = .ok (.istore 6, 2) := by decide +kernel
theorem dX0_rankBySize_28 : decode cX0_rankBySize 28 = .ok (.aload_n 2, 1) := by decide +kernel
theorem dX0_rankBySize_29 : decode cX0_rankBySize 29 = .ok (.iload 6, 2) := by decide +kernel
theorem dX0_rankBySize_31 : decode cX0_rankBySize 31 = .ok (.iconst 1, 1) := by decide +kernel
theorem dX0_rankBySize_32 : decode cX0_rankBySize 32 = .ok (.iadd, 1) := by decide +kernel
theorem dX0_rankBySize_33 : decode cX0_rankBySize 33 = .ok (.dup2, 1) := by decide +kernel
theorem dX0_rankBySize_34 : decode cX0_rankBySize 34 = .ok (.iaload, 1) := by decide +kernel
theorem dX0_rankBySize_35 : decode cX0_rankBySize 35 = .ok (.iconst 1, 1) := by decide +kernel
theorem dX0_rankBySize_36 : decode cX0_rankBySize 36 = .ok (.iadd, 1) := by decide +kernel
theorem dX0_rankBySize_37 : decode cX0_rankBySize 37 = .ok (.iastore, 1) := by decide +kernel
theorem dX0_rankBySize_38 : decode cX0_rankBySize 38 = .ok (.iinc 5 1, 3) := by decide +kernel
theorem dX0_rankBySize_41 : decode cX0_rankBySize 41 = .ok (.goto (-26), 3) := by decide +kernel
theorem dX0_rankBySize_44 : decode cX0_rankBySize 44 = .ok (.iconst 1, 1) := by decide +kernel
theorem dX0_rankBySize_45 : decode cX0_rankBySize 45 = .ok (.istore_n 3, 1) := by decide +kernel
theorem dX0_rankBySize_46 : decode cX0_rankBySize 46 = .ok (.iload_n 3, 1) := by decide +kernel
theorem dX0_rankBySize_47 : decode cX0_rankBySize 47 = .ok (.sipush 288, 3) := by decide +kernel
theorem dX0_rankBySize_50 : decode cX0_rankBySize 50 = .ok (.if_icmp .gt 20, 3) := by decide +kernel
theorem dX0_rankBySize_53 : decode cX0_rankBySize 53 = .ok (.aload_n 2, 1) := by decide +kernel
theorem dX0_rankBySize_54 : decode cX0_rankBySize 54 = .ok (.iload_n 3, 1) := by decide +kernel
theorem dX0_rankBySize_55 : decode cX0_rankBySize 55 = .ok (.dup2, 1) := by decide +kernel
theorem dX0_rankBySize_56 : decode cX0_rankBySize 56 = .ok (.iaload, 1) := by decide +kernel
theorem dX0_rankBySize_57 : decode cX0_rankBySize 57 = .ok (.aload_n 2, 1) := by decide +kernel
theorem dX0_rankBySize_58 : decode cX0_rankBySize 58 = .ok (.iload_n 3, 1) := by decide +kernel
theorem dX0_rankBySize_59 : decode cX0_rankBySize 59 = .ok (.iconst 1, 1) := by decide +kernel
theorem dX0_rankBySize_60 : decode cX0_rankBySize 60 = .ok (.isub, 1) := by decide +kernel
theorem dX0_rankBySize_61 : decode cX0_rankBySize 61 = .ok (.iaload, 1) := by decide +kernel
theorem dX0_rankBySize_62 : decode cX0_rankBySize 62 = .ok (.iadd, 1) := by decide +kernel
theorem dX0_rankBySize_63 : decode cX0_rankBySize 63 = .ok (.iastore, 1) := by decide +kernel
theorem dX0_rankBySize_64 : decode cX0_rankBySize 64 = .ok (.iinc 3 1, 3) := by decide +kernel
theorem dX0_rankBySize_67 : decode cX0_rankBySize 67 = .ok (.goto (-21), 3) := by decide +kernel
theorem dX0_rankBySize_70 : decode cX0_rankBySize 70 = .ok (.iconst 0, 1) := by decide +kernel
theorem dX0_rankBySize_71 : decode cX0_rankBySize 71 = .ok (.istore_n 3, 1) := by decide +kernel
theorem dX0_rankBySize_72 : decode cX0_rankBySize 72 = .ok (.iload_n 3, 1) := by decide +kernel
theorem dX0_rankBySize_73 : decode cX0_rankBySize 73 = .ok (.aload_n 1, 1) := by decide +kernel
theorem dX0_rankBySize_74 : decode cX0_rankBySize 74 = .ok (.arraylength, 1) := by decide +kernel
theorem dX0_rankBySize_75 : decode cX0_rankBySize 75 = .ok (.if_icmp .ge 29, 3) := by decide +kernel
theorem dX0_rankBySize_78 : decode cX0_rankBySize 78 = .ok (.aload_n 0, 1) := by decide +kernel
theorem dX0_rankBySize_79 : decode cX0_rankBySize 79 = .ok (.getfield 37, 3) := by decide +kernel
theorem dX0_rankBySize_82 : decode cX0_rankBySize 82 = .ok (.iload_n 3, 1) := by decide +kernel
theorem dX0_rankBySize_83 : decode cX0_rankBySize 83 = .ok (.aload_n 2, 1) := by decide +kernel
theorem dX0_rankBySize_84 : decode cX0_rankBySize 84 = .ok (.aload_n 1, 1) := by decide +kernel
theorem dX0_rankBySize_85 : decode cX0_rankBySize 85 = .ok (.iload_n 3, 1) := by decide +kernel
theorem dX0_rankBySize_86 : decode cX0_rankBySize 86 = .ok (.iaload, 1) := by decide +kernel
theorem dX0_rankBySize_87 : decode cX0_rankBySize 87 = .ok (.iaload, 1) := by decide +kernel
theorem dX0_rankBySize_88 : decode cX0_rankBySize 88 = .ok (.iastore, 1) := by decide +kernel
theorem dX0_rankBySize_89 : decode cX0_rankBySize 89 = .ok (.aload_n 2, 1) := by decide +kernel
theorem dX0_rankBySize_90 : decode cX0_rankBySize 90 = .ok (.aload_n 1, 1) := by decide +kernel
theorem dX0_rankBySize_91 : decode cX0_rankBySize 91 = .ok (.iload_n 3, 1) := by decide +kernel
theorem dX0_rankBySize_92 : decode cX0_rankBySize 92 = .ok (.iaload, 1) := by decide +kernel
theorem dX0_rankBySize_93 : decode cX0_rankBySize 93 = .ok (.dup2, 1) := by decide +kernel
theorem dX0_rankBySize_94 : decode cX0_rankBySize 94 = .ok (.iaload, 1) := by decide +kernel
theorem dX0_rankBySize_95 : decode cX0_rankBySize 95 = .ok (.iconst 1, 1) := by decide +kernel
theorem dX0_rankBySize_96 : decode cX0_rankBySize 96 = .ok (.iadd, 1) := by decide +kernel
theorem dX0_rankBySize_97 : decode cX0_rankBySize 97 = .ok (.iastore, 1) := by decide +kernel
theorem dX0_rankBySize_98 : decode cX0_rankBySize 98 = .ok (.iinc 3 1, 3) := by decide +kernel
theorem dX0_rankBySize_101 : decode cX0_rankBySize 101 = .ok (.goto (-29), 3) := by decide +kernel
theorem dX0_rankBySize_104 : decode cX0_rankBySize 104 = .ok (.return_, 1) := by decide +kernel
theorem dX0_takes_0 : decode cX0_takes 0 = .ok (.aload_n 0, 1) := by decide +kernel
theorem dX0_takes_1 : decode cX0_takes 1 = .ok (.getfield 37, 3) := by decide +kernel
theorem dX0_takes_4 : decode cX0_takes 4 = .ok (.aload_n 0, 1) := by decide +kernel
theorem dX0_takes_5 : decode cX0_takes 5 = .ok (.iload_n 2, 1) := by decide +kernel
theorem dX0_takes_6 : decode cX0_takes 6 = .ok (.iload_n 3, 1) := by decide +kernel
theorem dX0_takes_7 : decode cX0_takes 7 = .ok (.invokevirtual 52, 3) := by decide +kernel
theorem dX0_takes_10 : decode cX0_takes 10 = .ok (.iaload, 1) := by decide +kernel
theorem dX0_takes_11 : decode cX0_takes 11 = .ok (.iload_n 1, 1) := by decide +kernel
theorem dX0_takes_12 : decode cX0_takes 12 = .ok (.aload_n 0, 1) := by decide +kernel
theorem dX0_takes_13 : decode cX0_takes 13 = .ok (.getfield 37, 3) := by decide +kernel
theorem dX0_takes_16 : decode cX0_takes 16 = .ok (.arraylength, 1) := by decide +kernel
theorem dX0_takes_17 : decode cX0_takes 17 = .ok (.imul, 1) := by decide +kernel
theorem dX0_takes_18 : decode cX0_takes 18 = .ok (.bipush 127, 2) := by decide +kernel
theorem dX0_takes_20 : decode cX0_takes 20 = .ok (.iadd, 1) := by decide +kernel
theorem dX0_takes_21 : decode cX0_takes 21 = .ok (.sipush 255, 3) := by decide +kernel
theorem dX0_takes_24 : decode cX0_takes 24 = .ok (.idiv, 1) := by decide +kernel
theorem dX0_takes_25 : decode cX0_takes 25 = .ok (.if_icmp .ge 7, 3) := by decide +kernel
theorem dX0_takes_28 : decode cX0_takes 28 = .ok (.iconst 1, 1) := by decide +kernel
theorem dX0_takes_29 : decode cX0_takes 29 = .ok (.goto 4, 3) := by decide +kernel
theorem dX0_takes_32 : decode cX0_takes 32 = .ok (.iconst 0, 1) := by decide +kernel
theorem dX0_takes_33 : decode cX0_takes 33 = .ok (.ireturn, 1) := by decide +kernel
theorem dX1_init_0 : decode cX1_init 0 = .ok (.aload_n 0, 1) := by decide +kernel
theorem dX1_init_1 : decode cX1_init 1 = .ok (.invokespecial 3, 3) := by decide +kernel
theorem dX1_init_4 : decode cX1_init 4 = .ok (.aload_n 0, 1) := by decide +kernel
theorem dX1_init_5 : decode cX1_init 5 = .ok (.bipush 12, 2) := by decide +kernel
theorem dX1_init_7 : decode cX1_init 7 = .ok (.newarray .int, 2) := by decide +kernel
theorem dX1_init_9 : decode cX1_init 9 = .ok (.putfield 11, 3) := by decide +kernel
theorem dX1_init_12 : decode cX1_init 12 = .ok (.aload_n 0, 1) := by decide +kernel
theorem dX1_init_13 : decode cX1_init 13 = .ok (.bipush 12, 2) := by decide +kernel
theorem dX1_init_15 : decode cX1_init 15 = .ok (.newarray .int, 2) := by decide +kernel
theorem dX1_init_17 : decode cX1_init 17 = .ok (.putfield 15, 3) := by decide +kernel
theorem dX1_init_20 : decode cX1_init 20 = .ok (.aload_n 0, 1) := by decide +kernel
theorem dX1_init_21 : decode cX1_init 21 = .ok (.getfield 11, 3) := by decide +kernel
theorem dX1_init_24 : decode cX1_init 24 = .ok (.iconst 1, 1) := by decide +kernel
theorem dX1_init_25 : decode cX1_init 25 = .ok (.sipush 255, 3) := by decide +kernel
theorem dX1_init_28 : decode cX1_init 28 = .ok (.iastore, 1) := by decide +kernel
theorem dX1_init_29 : decode cX1_init 29 = .ok (.aload_n 0, 1) := by decide +kernel
theorem dX1_init_30 : decode cX1_init 30 = .ok (.getfield 15, 3) := by decide +kernel
theorem dX1_init_33 : decode cX1_init 33 = .ok (.iconst 1, 1) := by decide +kernel
theorem dX1_init_34 : decode cX1_init 34 = .ok (.sipush 255, 3) := by decide +kernel
theorem dX1_init_37 : decode cX1_init 37 = .ok (.iastore, 1) := by decide +kernel
theorem dX1_init_38 : decode cX1_init 38 = .ok (.aload_n 0, 1) := by decide +kernel
theorem dX1_init_39 : decode cX1_init 39 = .ok (.iconst 2, 1) := by decide +kernel
theorem dX1_init_40 : decode cX1_init 40 = .ok (.putfield 18, 3) := by decide +kernel
theorem dX1_init_43 : decode cX1_init 43 = .ok (.return_, 1) := by decide +kernel
theorem dX1_firstFrom_0 : decode cX1_firstFrom 0 = .ok (.iconst 0, 1) := by decide +kernel
theorem dX1_firstFrom_1 : decode cX1_firstFrom 1 = .ok (.istore_n 2, 1) := by decide +kernel
theorem dX1_firstFrom_2 : decode cX1_firstFrom 2 = .ok (.iload_n 2, 1) := by decide +kernel
theorem dX1_firstFrom_3 : decode cX1_firstFrom 3 = .ok (.aload_n 0, 1) := by decide +kernel
theorem dX1_firstFrom_4 : decode cX1_firstFrom 4 = .ok (.getfield 18, 3) := by decide +kernel
theorem dX1_firstFrom_7 : decode cX1_firstFrom 7 = .ok (.iconst 1, 1) := by decide +kernel
theorem dX1_firstFrom_8 : decode cX1_firstFrom 8 = .ok (.isub, 1) := by decide +kernel
theorem dX1_firstFrom_9 : decode cX1_firstFrom 9 = .ok (.if_icmp .ge 19, 3) := by decide +kernel
theorem dX1_firstFrom_12 : decode cX1_firstFrom 12 = .ok (.aload_n 0, 1) := by decide +kernel
theorem dX1_firstFrom_13 : decode cX1_firstFrom 13 = .ok (.getfield 11, 3) := by decide +kernel
theorem dX1_firstFrom_16 : decode cX1_firstFrom 16 = .ok (.iload_n 2, 1) := by decide +kernel
theorem dX1_firstFrom_17 : decode cX1_firstFrom 17 = .ok (.iaload, 1) := by decide +kernel
theorem dX1_firstFrom_18 : decode cX1_firstFrom 18 = .ok (.iload_n 1, 1) := by decide +kernel
theorem dX1_firstFrom_19 : decode cX1_firstFrom 19 = .ok (.if_icmp .ge 9, 3) := by decide +kernel
theorem dX1_firstFrom_22 : decode cX1_firstFrom 22 = .ok (.iinc 2 1, 3) := by decide +kernel
theorem dX1_firstFrom_25 : decode cX1_firstFrom 25 = .ok (.goto (-23), 3) := by decide +kernel
theorem dX1_firstFrom_28 : decode cX1_firstFrom 28 = .ok (.iload_n 2, 1) := by decide +kernel
theorem dX1_firstFrom_29 : decode cX1_firstFrom 29 = .ok (.ireturn, 1) := by decide +kernel
theorem dX1_hasRoomFor_0 : decode cX1_hasRoomFor 0 = .ok (.aload_n 0, 1) := by decide +kernel
theorem dX1_hasRoomFor_1 : decode cX1_hasRoomFor 1 = .ok (.getfield 18, 3) := by decide +kernel
theorem dX1_hasRoomFor_4 : decode cX1_hasRoomFor 4 = .ok (.bipush 12, 2) := by decide +kernel
theorem dX1_hasRoomFor_6 : decode cX1_hasRoomFor 6 = .ok (.if_icmp .lt 17, 3) := by decide +kernel
theorem dX1_hasRoomFor_9 : decode cX1_hasRoomFor 9 = .ok (.aload_n 0, 1) := by decide +kernel
theorem dX1_hasRoomFor_10 : decode cX1_hasRoomFor 10 = .ok (.getfield 11, 3) := by decide +kernel
theorem dX1_hasRoomFor_13 : decode cX1_hasRoomFor 13 = .ok (.aload_n 0, 1) := by decide +kernel
theorem dX1_hasRoomFor_14 : decode cX1_hasRoomFor 14 = .ok (.iload_n 1, 1) := by decide +kernel
theorem dX1_hasRoomFor_15 : decode cX1_hasRoomFor 15 = .ok (.invokevirtual 22, 3) := by decide +kernel
theorem dX1_hasRoomFor_18 : decode cX1_hasRoomFor 18 = .ok (.iaload, 1) := by decide +kernel
theorem dX1_hasRoomFor_19 : decode cX1_hasRoomFor 19 = .ok (.iload_n 1, 1) := by decide +kernel
theorem dX1_hasRoomFor_20 : decode cX1_hasRoomFor 20 = .ok (.if_icmp .ne 7, 3) := by decide +kernel
theorem dX1_hasRoomFor_23 : decode cX1_hasRoomFor 23 = .ok (.iconst 1, 1) := by decide +kernel
theorem dX1_hasRoomFor_24 : decode cX1_hasRoomFor 24 = .ok (.goto 4, 3) := by decide +kernel
theorem dX1_hasRoomFor_27 : decode cX1_hasRoomFor 27 = .ok (.iconst 0, 1) := by decide +kernel
theorem dX1_hasRoomFor_28 : decode cX1_hasRoomFor 28 = .ok (.ireturn, 1) := by decide +kernel
theorem dX1_put_0 : decode cX1_put 0 = .ok (.aload_n 0, 1) := by decide +kernel
theorem dX1_put_1 : decode cX1_put 1 = .ok (.iload_n 1, 1) := by decide +kernel
theorem dX1_put_2 : decode cX1_put 2 = .ok (.invokevirtual 22, 3) := by decide +kernel
theorem dX1_put_5 : decode cX1_put 5 = .ok (.istore_n 3, 1) := by decide +kernel
theorem dX1_put_6 : decode cX1_put 6 = .ok (.aload_n 0, 1) := by decide +kernel
theorem dX1_put_7 : decode cX1_put 7 = .ok (.getfield 11, 3) := by decide +kernel
theorem dX1_put_10 : decode cX1_put 10 = .ok (.iload_n 3, 1) := by decide +kernel
theorem dX1_put_11 : decode cX1_put 11 = .ok (.iaload, 1) := by decide +kernel
theorem dX1_put_12 : decode cX1_put 12 = .ok (.iload_n 1, 1) := by decide +kernel
theorem dX1_put_13 : decode cX1_put 13 = .ok (.if_icmp .eq 63, 3) := by decide +kernel
theorem dX1_put_16 : decode cX1_put 16 = .ok (.aload_n 0, 1) := by decide +kernel
theorem dX1_put_17 : decode cX1_put 17 = .ok (.getfield 18, 3) := by decide +kernel
theorem dX1_put_20 : decode cX1_put 20 = .ok (.istore 4, 2) := by decide +kernel
theorem dX1_put_22 : decode cX1_put 22 = .ok (.iload 4, 2) := by decide +kernel
theorem dX1_put_24 : decode cX1_put 24 = .ok (.iload_n 3, 1) := by decide +kernel
theorem dX1_put_25 : decode cX1_put 25 = .ok (.if_icmp .le 41, 3) := by decide +kernel
theorem dX1_put_28 : decode cX1_put 28 = .ok (.aload_n 0, 1) := by decide +kernel
theorem dX1_put_29 : decode cX1_put 29 = .ok (.getfield 11, 3) := by decide +kernel
theorem dX1_put_32 : decode cX1_put 32 = .ok (.iload 4, 2) := by decide +kernel
theorem dX1_put_34 : decode cX1_put 34 = .ok (.aload_n 0, 1) := by decide +kernel
theorem dX1_put_35 : decode cX1_put 35 = .ok (.getfield 11, 3) := by decide +kernel
theorem dX1_put_38 : decode cX1_put 38 = .ok (.iload 4, 2) := by decide +kernel
theorem dX1_put_40 : decode cX1_put 40 = .ok (.iconst 1, 1) := by decide +kernel
theorem dX1_put_41 : decode cX1_put 41 = .ok (.isub, 1) := by decide +kernel
theorem dX1_put_42 : decode cX1_put 42 = .ok (.iaload, 1) := by decide +kernel
theorem dX1_put_43 : decode cX1_put 43 = .ok (.iastore, 1) := by decide +kernel
theorem dX1_put_44 : decode cX1_put 44 = .ok (.aload_n 0, 1) := by decide +kernel
theorem dX1_put_45 : decode cX1_put 45 = .ok (.getfield 15, 3) := by decide +kernel
theorem dX1_put_48 : decode cX1_put 48 = .ok (.iload 4, 2) := by decide +kernel
theorem dX1_put_50 : decode cX1_put 50 = .ok (.aload_n 0, 1) := by decide +kernel
theorem dX1_put_51 : decode cX1_put 51 = .ok (.getfield 15, 3) := by decide +kernel
theorem dX1_put_54 : decode cX1_put 54 = .ok (.iload 4, 2) := by decide +kernel
theorem dX1_put_56 : decode cX1_put 56 = .ok (.iconst 1, 1) := by decide +kernel
theorem dX1_put_57 : decode cX1_put 57 = .ok (.isub, 1) := by decide +kernel
theorem dX1_put_58 : decode cX1_put 58 = .ok (.iaload, 1) := by decide +kernel
theorem dX1_put_59 : decode cX1_put 59 = .ok (.iastore, 1) := by decide +kernel
theorem dX1_put_60 : decode cX1_put 60 = .ok (.iinc 4 (-1), 3) := by decide +kernel
theorem dX1_put_63 : decode cX1_put 63 = .ok (.goto (-41), 3) := by decide +kernel
theorem dX1_put_66 : decode cX1_put 66 = .ok (.aload_n 0, 1) := by decide +kernel
theorem dX1_put_67 : decode cX1_put 67 = .ok (.dup, 1) := by decide +kernel
theorem dX1_put_68 : decode cX1_put 68 = .ok (.getfield 18, 3) := by decide +kernel
theorem dX1_put_71 : decode cX1_put 71 = .ok (.iconst 1, 1) := by decide +kernel
theorem dX1_put_72 : decode cX1_put 72 = .ok (.iadd, 1) := by decide +kernel
theorem dX1_put_73 : decode cX1_put 73 = .ok (.putfield 18, 3) := by decide +kernel
theorem dX1_put_76 : decode cX1_put 76 = .ok (.aload_n 0, 1) := by decide +kernel
theorem dX1_put_77 : decode cX1_put 77 = .ok (.getfield 11, 3) := by decide +kernel
theorem dX1_put_80 : decode cX1_put 80 = .ok (.iload_n 3, 1) := by decide +kernel
theorem dX1_put_81 : decode cX1_put 81 = .ok (.iload_n 1, 1) := by decide +kernel
theorem dX1_put_82 : decode cX1_put 82 = .ok (.iastore, 1) := by decide +kernel
theorem dX1_put_83 : decode cX1_put 83 = .ok (.aload_n 0, 1) := by decide +kernel
theorem dX1_put_84 : decode cX1_put 84 = .ok (.getfield 15, 3) := by decide +kernel
theorem dX1_put_87 : decode cX1_put 87 = .ok (.iload_n 3, 1) := by decide +kernel
theorem dX1_put_88 : decode cX1_put 88 = .ok (.iload_n 2, 1) := by decide +kernel
theorem dX1_put_89 : decode cX1_put 89 = .ok (.iastore, 1) := by decide +kernel
theorem dX1_put_90 : decode cX1_put 90 = .ok (.return_, 1) := by decide +kernel
theorem dX1_bent_0 : decode cX1_bent 0 = .ok (.iconst 1, 1) := by decide +kernel
theorem dX1_bent_1 : decode cX1_bent 1 = .ok (.aload_n 0, 1) := by decide +kernel
theorem dX1_bent_2 : decode cX1_bent 2 = .ok (.iload_n 1, 1) := by decide +kernel
theorem dX1_bent_3 : decode cX1_bent 3 = .ok (.invokevirtual 22, 3) := by decide +kernel
theorem dX1_bent_6 : decode cX1_bent 6 = .ok (.invokestatic 26, 3) := by decide +kernel
theorem dX1_bent_9 : decode cX1_bent 9 = .ok (.istore_n 2, 1) := by decide +kernel
theorem dX1_bent_10 : decode cX1_bent 10 = .ok (.aload_n 0, 1) := by decide +kernel
theorem dX1_bent_11 : decode cX1_bent 11 = .ok (.getfield 11, 3) := by decide +kernel
theorem dX1_bent_14 : decode cX1_bent 14 = .ok (.iload_n 2, 1) := by decide +kernel
theorem dX1_bent_15 : decode cX1_bent 15 = .ok (.iaload, 1) := by decide +kernel
theorem dX1_bent_16 : decode cX1_bent 16 = .ok (.aload_n 0, 1) := by decide +kernel
theorem dX1_bent_17 : decode cX1_bent 17 = .ok (.getfield 11, 3) := by decide +kernel
theorem dX1_bent_20 : decode cX1_bent 20 = .ok (.iload_n 2, 1) := by decide +kernel
theorem dX1_bent_21 : decode cX1_bent 21 = .ok (.iconst 1, 1) := by decide +kernel
theorem dX1_bent_22 : decode cX1_bent 22 = .ok (.isub, 1) := by decide +kernel
theorem dX1_bent_23 : decode cX1_bent 23 = .ok (.iaload, 1) := by decide +kernel
theorem dX1_bent_24 : decode cX1_bent 24 = .ok (.isub, 1) := by decide +kernel
theorem dX1_bent_25 : decode cX1_bent 25 = .ok (.istore_n 3, 1) := by decide +kernel
theorem dX1_bent_26 : decode cX1_bent 26 = .ok (.aload_n 0, 1) := by decide +kernel
theorem dX1_bent_27 : decode cX1_bent 27 = .ok (.getfield 15, 3) := by decide +kernel
theorem dX1_bent_30 : decode cX1_bent 30 = .ok (.iload_n 2, 1) := by decide +kernel
theorem dX1_bent_31 : decode cX1_bent 31 = .ok (.iaload, 1) := by decide +kernel
theorem dX1_bent_32 : decode cX1_bent 32 = .ok (.aload_n 0, 1) := by decide +kernel
theorem dX1_bent_33 : decode cX1_bent 33 = .ok (.getfield 15, 3) := by decide +kernel
theorem dX1_bent_36 : decode cX1_bent 36 = .ok (.iload_n 2, 1) := by decide +kernel
theorem dX1_bent_37 : decode cX1_bent 37 = .ok (.iconst 1, 1) := by decide +kernel
theorem dX1_bent_38 : decode cX1_bent 38 = .ok (.isub, 1) := by decide +kernel
theorem dX1_bent_39 : decode cX1_bent 39 = .ok (.iaload, 1) := by decide +kernel
theorem dX1_bent_40 : decode cX1_bent 40 = .ok (.isub, 1) := by decide +kernel
theorem dX1_bent_41 : decode cX1_bent 41 = .ok (.istore 4, 2) := by decide +kernel
theorem dX1_bent_43 : decode cX1_bent 43 = .ok (.iload_n 3, 1) := by decide +kernel
theorem dX1_bent_44 : decode cX1_bent 44 = .ok (.ifCond .gt 12, 3) := by decide +kernel
theorem dX1_bent_47 : decode cX1_bent 47 = .ok (.aload_n 0, 1) := by decide +kernel
theorem dX1_bent_48 : decode cX1_bent 48 = .ok (.getfield 15, 3) := by decide +kernel
theorem dX1_bent_51 : decode cX1_bent 51 = .ok (.iload_n 2, 1) := by decide +kernel
theorem dX1_bent_52 : decode cX1_bent 52 = .ok (.iaload, 1) := by decide +kernel
theorem dX1_bent_53 : decode cX1_bent 53 = .ok (.goto 27, 3) := by decide +kernel
theorem dX1_bent_56 : decode cX1_bent 56 = .ok (.aload_n 0, 1) := by decide +kernel
theorem dX1_bent_57 : decode cX1_bent 57 = .ok (.getfield 15, 3) := by decide +kernel
theorem dX1_bent_60 : decode cX1_bent 60 = .ok (.iload_n 2, 1) := by decide +kernel
theorem dX1_bent_61 : decode cX1_bent 61 = .ok (.iconst 1, 1) := by decide +kernel
theorem dX1_bent_62 : decode cX1_bent 62 = .ok (.isub, 1) := by decide +kernel
theorem dX1_bent_63 : decode cX1_bent 63 = .ok (.iaload, 1) := by decide +kernel
theorem dX1_bent_64 : decode cX1_bent 64 = .ok (.iload 4, 2) := by decide +kernel
theorem dX1_bent_66 : decode cX1_bent 66 = .ok (.iload_n 1, 1) := by decide +kernel
theorem dX1_bent_67 : decode cX1_bent 67 = .ok (.aload_n 0, 1) := by decide +kernel
theorem dX1_bent_68 : decode cX1_bent 68 = .ok (.getfield 11, 3) := by decide +kernel
theorem dX1_bent_71 : decode cX1_bent 71 = .ok (.iload_n 2, 1) := by decide +kernel
theorem dX1_bent_72 : decode cX1_bent 72 = .ok (.iconst 1, 1) := by decide +kernel
theorem dX1_bent_73 : decode cX1_bent 73 = .ok (.isub, 1) := by decide +kernel
theorem dX1_bent_74 : decode cX1_bent 74 = .ok (.iaload, 1) := by decide +kernel
theorem dX1_bent_75 : decode cX1_bent 75 = .ok (.isub, 1) := by decide +kernel
theorem dX1_bent_76 : decode cX1_bent 76 = .ok (.imul, 1) := by decide +kernel
theorem dX1_bent_77 : decode cX1_bent 77 = .ok (.iload_n 3, 1) := by decide +kernel
theorem dX1_bent_78 : decode cX1_bent 78 = .ok (.idiv, 1) := by decide +kernel
theorem dX1_bent_79 : decode cX1_bent 79 = .ok (.iadd, 1) := by decide +kernel
theorem dX1_bent_80 : decode cX1_bent 80 = .ok (.ireturn, 1) := by decide +kernel
theorem dX2_init_0 : decode cX2_init 0 = .ok (.aload_n 0, 1) := by decide +kernel
theorem dX2_init_1 : decode cX2_init 1 = .ok (.invokespecial 3, 3) := by decide +kernel
theorem dX2_init_4 : decode cX2_init 4 = .ok (.aload_n 0, 1) := by decide +kernel
theorem dX2_init_5 : decode cX2_init 5 = .ok (.bipush 32, 2) := by decide +kernel
theorem dX2_init_7 : decode cX2_init 7 = .ok (.newarray .int, 2) := by decide +kernel
theorem dX2_init_9 : decode cX2_init 9 = .ok (.putfield 11, 3) := by decide +kernel
theorem dX2_init_12 : decode cX2_init 12 = .ok (.aload_n 0, 1) := by decide +kernel
theorem dX2_init_13 : decode cX2_init 13 = .ok (.bipush 8, 2) := by decide +kernel
theorem dX2_init_15 : decode cX2_init 15 = .ok (.newarray .int, 2) := by decide +kernel
theorem dX2_init_17 : decode cX2_init 17 = .ok (.putfield 15, 3) := by decide +kernel
theorem dX2_init_20 : decode cX2_init 20 = .ok (.iconst 0, 1) := by decide +kernel
theorem dX2_init_21 : decode cX2_init 21 = .ok (.istore_n 1, 1) := by decide +kernel
theorem dX2_init_22 : decode cX2_init 22 = .ok (.iload_n 1, 1) := by decide +kernel
theorem dX2_init_23 : decode cX2_init 23 = .ok (.bipush 8, 2) := by decide +kernel
theorem dX2_init_25 : decode cX2_init 25 = .ok (.if_icmp .ge 16, 3) := by decide +kernel
theorem dX2_init_28 : decode cX2_init 28 = .ok (.aload_n 0, 1) := by decide +kernel
theorem dX2_init_29 : decode cX2_init 29 = .ok (.getfield 15, 3) := by decide +kernel
theorem dX2_init_32 : decode cX2_init 32 = .ok (.iload_n 1, 1) := by decide +kernel
theorem dX2_init_33 : decode cX2_init 33 = .ok (.iconst (-1), 1) := by decide +kernel
theorem dX2_init_34 : decode cX2_init 34 = .ok (.iastore, 1) := by decide +kernel
theorem dX2_init_35 : decode cX2_init 35 = .ok (.iinc 1 1, 3) := by decide +kernel
theorem dX2_init_38 : decode cX2_init 38 = .ok (.goto (-16), 3) := by decide +kernel
theorem dX2_init_41 : decode cX2_init 41 = .ok (.iconst 0, 1) := by decide +kernel
theorem dX2_init_42 : decode cX2_init 42 = .ok (.istore_n 1, 1) := by decide +kernel
theorem dX2_init_43 : decode cX2_init 43 = .ok (.iload_n 1, 1) := by decide +kernel
theorem dX2_init_44 : decode cX2_init 44 = .ok (.iconst 4, 1) := by decide +kernel
theorem dX2_init_45 : decode cX2_init 45 = .ok (.if_icmp .ge 22, 3) := by decide +kernel
theorem dX2_init_48 : decode cX2_init 48 = .ok (.aload_n 0, 1) := by decide +kernel
theorem dX2_init_49 : decode cX2_init 49 = .ok (.getfield 11, 3) := by decide +kernel
theorem dX2_init_52 : decode cX2_init 52 = .ok (.iload_n 1, 1) := by decide +kernel
theorem dX2_init_53 : decode cX2_init 53 = .ok (.iconst 4, 1) := by decide +kernel
theorem dX2_init_54 : decode cX2_init 54 = .ok (.imul, 1) := by decide +kernel
theorem dX2_init_55 : decode cX2_init 55 = .ok (.iload_n 1, 1) := by decide +kernel
theorem dX2_init_56 : decode cX2_init 56 = .ok (.iadd, 1) := by decide +kernel
theorem dX2_init_57 : decode cX2_init 57 = .ok (.sipush 255, 3) := by decide +kernel
theorem dX2_init_60 : decode cX2_init 60 = .ok (.iastore, 1) := by decide +kernel
theorem dX2_init_61 : decode cX2_init 61 = .ok (.iinc 1 1, 3) := by decide +kernel
theorem dX2_init_64 : decode cX2_init 64 = .ok (.goto (-21), 3) := by decide +kernel
theorem dX2_init_67 : decode cX2_init 67 = .ok (.aload_n 0, 1) := by decide +kernel
theorem dX2_init_68 : decode cX2_init 68 = .ok (.iconst 4, 1) := by decide +kernel
theorem dX2_init_69 : decode cX2_init 69 = .ok (.putfield 18, 3) := by decide +kernel
theorem dX2_init_72 : decode cX2_init 72 = .ok (.return_, 1) := by decide +kernel
theorem dX2_addMix_0 : decode cX2_addMix 0 = .ok (.aload_n 0, 1) := by decide +kernel
theorem dX2_addMix_1 : decode cX2_addMix 1 = .ok (.getfield 18, 3) := by decide +kernel
theorem dX2_addMix_4 : decode cX2_addMix 4 = .ok (.iconst 4, 1) := by decide +kernel
theorem dX2_addMix_5 : decode cX2_addMix 5 = .ok (.imul, 1) := by decide +kernel
theorem dX2_addMix_6 : decode cX2_addMix 6 = .ok (.istore 5, 2) := by decide +kernel
theorem dX2_addMix_8 : decode cX2_addMix 8 = .ok (.aload_n 0, 1) := by decide +kernel
theorem dX2_addMix_9 : decode cX2_addMix 9 = .ok (.getfield 11, 3) := by decide +kernel
theorem dX2_addMix_12 : decode cX2_addMix 12 = .ok (.iload 5, 2) := by decide +kernel
theorem dX2_addMix_14 : decode cX2_addMix 14 = .ok (.iload_n 1, 1) := by decide +kernel
theorem dX2_addMix_15 : decode cX2_addMix 15 = .ok (.iastore, 1) := by decide +kernel
theorem dX2_addMix_16 : decode cX2_addMix 16 = .ok (.aload_n 0, 1) := by decide +kernel
theorem dX2_addMix_17 : decode cX2_addMix 17 = .ok (.getfield 11, 3) := by decide +kernel
theorem dX2_addMix_20 : decode cX2_addMix 20 = .ok (.iload 5, 2) := by decide +kernel
theorem dX2_addMix_22 : decode cX2_addMix 22 = .ok (.iconst 1, 1) := by decide +kernel
theorem dX2_addMix_23 : decode cX2_addMix 23 = .ok (.iadd, 1) := by decide +kernel
theorem dX2_addMix_24 : decode cX2_addMix 24 = .ok (.iload_n 2, 1) := by decide +kernel
theorem dX2_addMix_25 : decode cX2_addMix 25 = .ok (.iastore, 1) := by decide +kernel
theorem dX2_addMix_26 : decode cX2_addMix 26 = .ok (.aload_n 0, 1) := by decide +kernel
theorem dX2_addMix_27 : decode cX2_addMix 27 = .ok (.getfield 11, 3) := by decide +kernel
theorem dX2_addMix_30 : decode cX2_addMix 30 = .ok (.iload 5, 2) := by decide +kernel
theorem dX2_addMix_32 : decode cX2_addMix 32 = .ok (.iconst 2, 1) := by decide +kernel
theorem dX2_addMix_33 : decode cX2_addMix 33 = .ok (.iadd, 1) := by decide +kernel
theorem dX2_addMix_34 : decode cX2_addMix 34 = .ok (.iload_n 3, 1) := by decide +kernel
theorem dX2_addMix_35 : decode cX2_addMix 35 = .ok (.iastore, 1) := by decide +kernel
theorem dX2_addMix_36 : decode cX2_addMix 36 = .ok (.aload_n 0, 1) := by decide +kernel
theorem dX2_addMix_37 : decode cX2_addMix 37 = .ok (.getfield 11, 3) := by decide +kernel
theorem dX2_addMix_40 : decode cX2_addMix 40 = .ok (.iload 5, 2) := by decide +kernel
theorem dX2_addMix_42 : decode cX2_addMix 42 = .ok (.iconst 3, 1) := by decide +kernel
theorem dX2_addMix_43 : decode cX2_addMix 43 = .ok (.iadd, 1) := by decide +kernel
theorem dX2_addMix_44 : decode cX2_addMix 44 = .ok (.iload 4, 2) := by decide +kernel
theorem dX2_addMix_46 : decode cX2_addMix 46 = .ok (.iastore, 1) := by decide +kernel
theorem dX2_addMix_47 : decode cX2_addMix 47 = .ok (.aload_n 0, 1) := by decide +kernel
theorem dX2_addMix_48 : decode cX2_addMix 48 = .ok (.dup, 1) := by decide +kernel
theorem dX2_addMix_49 : decode cX2_addMix 49 = .ok (.getfield 18, 3) := by decide +kernel
theorem dX2_addMix_52 : decode cX2_addMix 52 = .ok (.iconst 1, 1) := by decide +kernel
theorem dX2_addMix_53 : decode cX2_addMix 53 = .ok (.iadd, 1) := by decide +kernel
theorem dX2_addMix_54 : decode cX2_addMix 54 = .ok (.putfield 18, 3) := by decide +kernel
theorem dX2_addMix_57 : decode cX2_addMix 57 = .ok (.aload_n 0, 1) := by decide +kernel
theorem dX2_addMix_58 : decode cX2_addMix 58 = .ok (.getfield 18, 3) := by decide +kernel
theorem dX2_addMix_61 : decode cX2_addMix 61 = .ok (.iconst 1, 1) := by decide +kernel
theorem dX2_addMix_62 : decode cX2_addMix 62 = .ok (.isub, 1) := by decide +kernel
theorem dX2_addMix_63 : decode cX2_addMix 63 = .ok (.ireturn, 1) := by decide +kernel
theorem dX2_strength_0 : decode cX2_strength 0 = .ok (.sipush 255, 3) := by decide +kernel
theorem dX2_strength_3 : decode cX2_strength 3 = .ok (.aload_n 0, 1) := by decide +kernel
theorem dX2_strength_4 : decode cX2_strength 4 = .ok (.getfield 11, 3) := by decide +kernel
theorem dX2_strength_7 : decode cX2_strength 7 = .ok (.iload_n 1, 1) := by decide +kernel
theorem dX2_strength_8 : decode cX2_strength 8 = .ok (.iconst 4, 1) := by decide +kernel
theorem dX2_strength_9 : decode cX2_strength 9 = .ok (.imul, 1) := by decide +kernel
theorem dX2_strength_10 : decode cX2_strength 10 = .ok (.iload_n 2, 1) := by decide +kernel
theorem dX2_strength_11 : decode cX2_strength 11 = .ok (.iadd, 1) := by decide +kernel
theorem dX2_strength_12 : decode cX2_strength 12 = .ok (.iaload, 1) := by decide +kernel
theorem dX2_strength_13 : decode cX2_strength 13 = .ok (.aload_n 0, 1) := by decide +kernel
theorem dX2_strength_14 : decode cX2_strength 14 = .ok (.getfield 11, 3) := by decide +kernel
theorem dX2_strength_17 : decode cX2_strength 17 = .ok (.iload_n 1, 1) := by decide +kernel
theorem dX2_strength_18 : decode cX2_strength 18 = .ok (.iconst 4, 1) := by decide +kernel
theorem dX2_strength_19 : decode cX2_strength 19 = .ok (.imul, 1) := by decide +kernel
theorem dX2_strength_20 : decode cX2_strength 20 = .ok (.iconst 3, 1) := by decide +kernel
theorem dX2_strength_21 : decode cX2_strength 21 = .ok (.iadd, 1) := by decide +kernel
theorem dX2_strength_22 : decode cX2_strength 22 = .ok (.iaload, 1) := by decide +kernel
theorem dX2_strength_23 : decode cX2_strength 23 = .ok (.iadd, 1) := by decide +kernel
theorem dX2_strength_24 : decode cX2_strength 24 = .ok (.invokestatic 22, 3) := by decide +kernel
theorem dX2_strength_27 : decode cX2_strength 27 = .ok (.ireturn, 1) := by decide +kernel
theorem dX3_init_0 : decode cX3_init 0 = .ok (.aload_n 0, 1) := by decide +kernel
theorem dX3_init_1 : decode cX3_init 1 = .ok (.invokespecial 5, 3) := by decide +kernel
theorem dX3_init_4 : decode cX3_init 4 = .ok (.aload_n 0, 1) := by decide +kernel
theorem dX3_init_5 : decode cX3_init 5 = .ok (.new 11, 3) := by decide +kernel
theorem dX3_init_8 : decode cX3_init 8 = .ok (.dup, 1) := by decide +kernel
theorem dX3_init_9 : decode cX3_init 9 = .ok (.invokespecial 13, 3) := by decide +kernel
theorem dX3_init_12 : decode cX3_init 12 = .ok (.putfield 14, 3) := by decide +kernel
theorem dX3_init_15 : decode cX3_init 15 = .ok (.aload_n 0, 1) := by decide +kernel
theorem dX3_init_16 : decode cX3_init 16 = .ok (.sipush 2040, 3) := by decide +kernel
theorem dX3_init_19 : decode cX3_init 19 = .ok (.putfield 18, 3) := by decide +kernel
theorem dX3_init_22 : decode cX3_init 22 = .ok (.aload_n 0, 1) := by decide +kernel
theorem dX3_init_23 : decode cX3_init 23 = .ok (.iconst 1, 1) := by decide +kernel
theorem dX3_init_24 : decode cX3_init 24 = .ok (.putfield 22, 3) := by decide +kernel
theorem dX3_init_27 : decode cX3_init 27 = .ok (.aload_n 0, 1) := by decide +kernel
theorem dX3_init_28 : decode cX3_init 28 = .ok (.iload_n 1, 1) := by decide +kernel
theorem dX3_init_29 : decode cX3_init 29 = .ok (.putfield 25, 3) := by decide +kernel
theorem dX3_init_32 : decode cX3_init 32 = .ok (.aload_n 0, 1) := by decide +kernel
theorem dX3_init_33 : decode cX3_init 33 = .ok (.iload_n 2, 1) := by decide +kernel
theorem dX3_init_34 : decode cX3_init 34 = .ok (.putfield 28, 3) := by decide +kernel
theorem dX3_init_37 : decode cX3_init 37 = .ok (.aload_n 0, 1) := by decide +kernel
theorem dX3_init_38 : decode cX3_init 38 = .ok (.iload_n 1, 1) := by decide +kernel
theorem dX3_init_39 : decode cX3_init 39 = .ok (.iload_n 2, 1) := by decide +kernel
theorem dX3_init_40 : decode cX3_init 40 = .ok (.imul, 1) := by decide +kernel
theorem dX3_init_41 : decode cX3_init 41 = .ok (.putfield 31, 3) := by decide +kernel
theorem dX3_init_44 : decode cX3_init 44 = .ok (.aload_n 0, 1) := by decide +kernel
theorem dX3_init_45 : decode cX3_init 45 = .ok (.bipush 8, 2) := by decide +kernel
theorem dX3_init_47 : decode cX3_init 47 = .ok (.aload_n 0, 1) := by decide +kernel
theorem dX3_init_48 : decode cX3_init 48 = .ok (.getfield 31, 3) := by decide +kernel
theorem dX3_init_51 : decode cX3_init 51 = .ok (.imul, 1) := by decide +kernel
theorem dX3_init_52 : decode cX3_init 52 = .ok (.newarray .int, 2) := by decide +kernel
theorem dX3_init_54 : decode cX3_init 54 = .ok (.putfield 34, 3) := by decide +kernel
theorem dX3_init_57 : decode cX3_init 57 = .ok (.return_, 1) := by decide +kernel
theorem dX3_byteAt_0 : decode cX3_byteAt 0 = .ok (.aload_n 0, 1) := by decide +kernel
theorem dX3_byteAt_1 : decode cX3_byteAt 1 = .ok (.getfield 34, 3) := by decide +kernel
theorem dX3_byteAt_4 : decode cX3_byteAt 4 = .ok (.iload_n 1, 1) := by decide +kernel
theorem dX3_byteAt_5 : decode cX3_byteAt 5 = .ok (.aload_n 0, 1) := by decide +kernel
theorem dX3_byteAt_6 : decode cX3_byteAt 6 = .ok (.getfield 31, 3) := by decide +kernel
theorem dX3_byteAt_9 : decode cX3_byteAt 9 = .ok (.imul, 1) := by decide +kernel
theorem dX3_byteAt_10 : decode cX3_byteAt 10 = .ok (.iload_n 2, 1) := by decide +kernel
theorem dX3_byteAt_11 : decode cX3_byteAt 11 = .ok (.iadd, 1) := by decide +kernel
theorem dX3_byteAt_12 : decode cX3_byteAt 12 = .ok (.iaload, 1) := by decide +kernel
theorem dX3_byteAt_13 : decode cX3_byteAt 13 = .ok (.ireturn, 1) := by decide +kernel
theorem dX3_byteWith_0 : decode cX3_byteWith 0 = .ok (.aload_n 0, 1) := by decide +kernel
theorem dX3_byteWith_1 : decode cX3_byteWith 1 = .ok (.iload_n 1, 1) := by decide +kernel
theorem dX3_byteWith_2 : decode cX3_byteWith 2 = .ok (.iload_n 2, 1) := by decide +kernel
theorem dX3_byteWith_3 : decode cX3_byteWith 3 = .ok (.invokevirtual 38, 3) := by decide +kernel
theorem dX3_byteWith_6 : decode cX3_byteWith 6 = .ok (.istore 4, 2) := by decide +kernel
theorem dX3_byteWith_8 : decode cX3_byteWith 8 = .ok (.iload_n 3, 1) := by decide +kernel
theorem dX3_byteWith_9 : decode cX3_byteWith 9 = .ok (.ifCond .ge 8, 3) := by decide +kernel
theorem dX3_byteWith_12 : decode cX3_byteWith 12 = .ok (.iload 4, 2) := by decide +kernel
theorem dX3_byteWith_14 : decode cX3_byteWith 14 = .ok (.goto 14, 3) := by decide +kernel
theorem dX3_byteWith_17 : decode cX3_byteWith 17 = .ok (.iload 4, 2) := by decide +kernel
theorem dX3_byteWith_19 : decode cX3_byteWith 19 = .ok (.aload_n 0, 1) := by decide +kernel
theorem dX3_byteWith_20 : decode cX3_byteWith 20 = .ok (.iload_n 1, 1) := by decide +kernel
theorem dX3_byteWith_21 : decode cX3_byteWith 21 = .ok (.iload_n 3, 1) := by decide +kernel
theorem dX3_byteWith_22 : decode cX3_byteWith 22 = .ok (.invokevirtual 38, 3) := by decide +kernel
theorem dX3_byteWith_25 : decode cX3_byteWith 25 = .ok (.invokestatic 42, 3) := by decide +kernel
theorem dX3_byteWith_28 : decode cX3_byteWith 28 = .ok (.ireturn, 1) := by decide +kernel
theorem dX3_paintPoint_0 : decode cX3_paintPoint 0 = .ok (.iconst 0, 1) := by decide +kernel
theorem dX3_paintPoint_1 : decode cX3_paintPoint 1 = .ok (.istore_n 3, 1) := by decide +kernel
theorem dX3_paintPoint_2 : decode cX3_paintPoint 2 = .ok (.iload_n 3, 1) := by decide +kernel
theorem dX3_paintPoint_3 : decode cX3_paintPoint 3 = .ok (.aload_n 0, 1) := by decide +kernel
theorem dX3_paintPoint_4 : decode cX3_paintPoint 4 = .ok (.getfield 14, 3) := by decide +kernel
theorem dX3_paintPoint_7 : decode cX3_paintPoint 7 = .ok (.getfield 47, 3) := by decide +kernel
theorem dX3_paintPoint_10 : decode cX3_paintPoint 10 = .ok (.if_icmp .ge 61, 3) := by decide +kernel
theorem dX3_paintPoint_13 : decode cX3_paintPoint 13 = .ok (.aload_n 0, 1) := by decide +kernel
theorem dX3_paintPoint_14 : decode cX3_paintPoint 14 = .ok (.getfield 14, 3) := by decide +kernel
theorem dX3_paintPoint_17 : decode cX3_paintPoint 17 = .ok (.getfield 50, 3) := by decide +kernel
theorem dX3_paintPoint_20 : decode cX3_paintPoint 20 = .ok (.iload_n 3, 1) := by decide +kernel
theorem dX3_paintPoint_21 : decode cX3_paintPoint 21 = .ok (.iaload, 1) := by decide +kernel
theorem dX3_paintPoint_22 : decode cX3_paintPoint 22 = .ok (.istore 4, 2) := by decide +kernel
theorem dX3_paintPoint_24 : decode cX3_paintPoint 24 = .ok (.iload 4, 2) := by decide +kernel
theorem dX3_paintPoint_26 : decode cX3_paintPoint 26 = .ok (.ifCond .lt 21, 3) := by decide +kernel
theorem dX3_paintPoint_29 : decode cX3_paintPoint 29 = .ok (.aload_n 0, 1) := by decide +kernel
theorem dX3_paintPoint_30 : decode cX3_paintPoint 30 = .ok (.getfield 34, 3) := by decide +kernel
theorem dX3_paintPoint_33 : decode cX3_paintPoint 33 = .ok (.iload_n 3, 1) := by decide +kernel
theorem dX3_paintPoint_34 : decode cX3_paintPoint 34 = .ok (.aload_n 0, 1) := by decide +kernel
theorem dX3_paintPoint_35 : decode cX3_paintPoint 35 = .ok (.getfield 31, 3) := by decide +kernel
theorem dX3_paintPoint_38 : decode cX3_paintPoint 38 = .ok (.imul, 1) := by decide +kernel
theorem dX3_paintPoint_39 : decode cX3_paintPoint 39 = .ok (.iload_n 1, 1) := by decide +kernel
theorem dX3_paintPoint_40 : decode cX3_paintPoint 40 = .ok (.iadd, 1) := by decide +kernel
theorem dX3_paintPoint_41 : decode cX3_paintPoint 41 = .ok (.iload 4, 2) := by decide +kernel
theorem dX3_paintPoint_43 : decode cX3_paintPoint 43 = .ok (.iastore, 1) := by decide +kernel
theorem dX3_paintPoint_44 : decode cX3_paintPoint 44 = .ok (.goto 21, 3) := by decide +kernel
theorem dX3_paintPoint_47 : decode cX3_paintPoint 47 = .ok (.iload_n 2, 1) := by decide +kernel
theorem dX3_paintPoint_48 : decode cX3_paintPoint 48 = .ok (.ifCond .ne 17, 3) := by decide +kernel
theorem dX3_paintPoint_51 : decode cX3_paintPoint 51 = .ok (.aload_n 0, 1) := by decide +kernel
theorem dX3_paintPoint_52 : decode cX3_paintPoint 52 = .ok (.getfield 34, 3) := by decide +kernel
theorem dX3_paintPoint_55 : decode cX3_paintPoint 55 = .ok (.iload_n 3, 1) := by decide +kernel
theorem dX3_paintPoint_56 : decode cX3_paintPoint 56 = .ok (.aload_n 0, 1) := by decide +kernel
theorem dX3_paintPoint_57 : decode cX3_paintPoint 57 = .ok (.getfield 31, 3) := by decide +kernel
theorem dX3_paintPoint_60 : decode cX3_paintPoint 60 = .ok (.imul, 1) := by decide +kernel
theorem dX3_paintPoint_61 : decode cX3_paintPoint 61 = .ok (.iload_n 1, 1) := by decide +kernel
theorem dX3_paintPoint_62 : decode cX3_paintPoint 62 = .ok (.iadd, 1) := by decide +kernel
theorem dX3_paintPoint_63 : decode cX3_paintPoint 63 = .ok (.iconst 0, 1) := by decide +kernel
theorem dX3_paintPoint_64 : decode cX3_paintPoint 64 = .ok (.iastore, 1) := by decide +kernel
theorem dX3_paintPoint_65 : decode cX3_paintPoint 65 = .ok (.iinc 3 1, 3) := by decide +kernel
theorem dX3_paintPoint_68 : decode cX3_paintPoint 68 = .ok (.goto (-66), 3) := by decide +kernel
theorem dX3_paintPoint_71 : decode cX3_paintPoint 71 = .ok (.aload_n 0, 1) := by decide +kernel
theorem dX3_paintPoint_72 : decode cX3_paintPoint 72 = .ok (.iload_n 1, 1) := by decide +kernel
theorem dX3_paintPoint_73 : decode cX3_paintPoint 73 = .ok (.invokevirtual 53, 3) := by decide +kernel
theorem dX3_paintPoint_76 : decode cX3_paintPoint 76 = .ok (.aload_n 0, 1) := by decide +kernel
theorem dX3_paintPoint_77 : decode cX3_paintPoint 77 = .ok (.getfield 18, 3) := by decide +kernel
theorem dX3_paintPoint_80 : decode cX3_paintPoint 80 = .ok (.isub, 1) := by decide +kernel
theorem dX3_paintPoint_81 : decode cX3_paintPoint 81 = .ok (.istore_n 3, 1) := by decide +kernel
theorem dX3_paintPoint_82 : decode cX3_paintPoint 82 = .ok (.iload_n 3, 1) := by decide +kernel
theorem dX3_paintPoint_83 : decode cX3_paintPoint 83 = .ok (.ifCond .le 14, 3) := by decide +kernel
theorem dX3_paintPoint_86 : decode cX3_paintPoint 86 = .ok (.aload_n 0, 1) := by decide +kernel
theorem dX3_paintPoint_87 : decode cX3_paintPoint 87 = .ok (.iload_n 1, 1) := by decide +kernel
theorem dX3_paintPoint_88 : decode cX3_paintPoint 88 = .ok (.iload_n 3, 1) := by decide +kernel
theorem dX3_paintPoint_89 : decode cX3_paintPoint 89 = .ok (.invokevirtual 57, 3) := by decide +kernel
theorem dX3_paintPoint_92 : decode cX3_paintPoint 92 = .ok (.aload_n 0, 1) := by decide +kernel
theorem dX3_paintPoint_93 : decode cX3_paintPoint 93 = .ok (.iload_n 1, 1) := by decide +kernel
theorem dX3_paintPoint_94 : decode cX3_paintPoint 94 = .ok (.invokevirtual 61, 3) := by decide +kernel
theorem dX3_paintPoint_97 : decode cX3_paintPoint 97 = .ok (.return_, 1) := by decide +kernel
theorem dX3_sumAt_0 : decode cX3_sumAt 0 = .ok (.iconst 0, 1) := by decide +kernel
theorem dX3_sumAt_1 : decode cX3_sumAt 1 = .ok (.istore_n 2, 1) := by decide +kernel
theorem dX3_sumAt_2 : decode cX3_sumAt 2 = .ok (.iconst 0, 1) := by decide +kernel
theorem dX3_sumAt_3 : decode cX3_sumAt 3 = .ok (.istore_n 3, 1) := by decide +kernel
theorem dX3_sumAt_4 : decode cX3_sumAt 4 = .ok (.iload_n 3, 1) := by decide +kernel
theorem dX3_sumAt_5 : decode cX3_sumAt 5 = .ok (.aload_n 0, 1) := by decide +kernel
theorem dX3_sumAt_6 : decode cX3_sumAt 6 = .ok (.getfield 14, 3) := by decide +kernel
theorem dX3_sumAt_9 : decode cX3_sumAt 9 = .ok (.getfield 47, 3) := by decide +kernel
theorem dX3_sumAt_12 : decode cX3_sumAt 12 = .ok (.if_icmp .ge 18, 3) := by decide +kernel
theorem dX3_sumAt_15 : decode cX3_sumAt 15 = .ok (.iload_n 2, 1) := by decide +kernel
theorem dX3_sumAt_16 : decode cX3_sumAt 16 = .ok (.aload_n 0, 1) := by decide +kernel
theorem dX3_sumAt_17 : decode cX3_sumAt 17 = .ok (.iload_n 3, 1) := by decide +kernel
theorem dX3_sumAt_18 : decode cX3_sumAt 18 = .ok (.iload_n 1, 1) := by decide +kernel
theorem dX3_sumAt_19 : decode cX3_sumAt 19 = .ok (.invokevirtual 38, 3) := by decide +kernel
theorem dX3_sumAt_22 : decode cX3_sumAt 22 = .ok (.iadd, 1) := by decide +kernel
theorem dX3_sumAt_23 : decode cX3_sumAt 23 = .ok (.istore_n 2, 1) := by decide +kernel
theorem dX3_sumAt_24 : decode cX3_sumAt 24 = .ok (.iinc 3 1, 3) := by decide +kernel
theorem dX3_sumAt_27 : decode cX3_sumAt 27 = .ok (.goto (-23), 3) := by decide +kernel
theorem dX3_sumAt_30 : decode cX3_sumAt 30 = .ok (.iload_n 2, 1) := by decide +kernel
theorem dX3_sumAt_31 : decode cX3_sumAt 31 = .ok (.ireturn, 1) := by decide +kernel
theorem dX3_moveToBlack_0 : decode cX3_moveToBlack 0 = .ok (.iload_n 2, 1) := by decide +kernel
theorem dX3_moveToBlack_1 : decode cX3_moveToBlack 1 = .ok (.iconst 1, 1) := by decide +kernel
theorem dX3_moveToBlack_2 : decode cX3_moveToBlack 2 = .ok (.iadd, 1) := by decide +kernel
theorem dX3_moveToBlack_3 : decode cX3_moveToBlack 3 = .ok (.iconst 2, 1) := by decide +kernel
theorem dX3_moveToBlack_4 : decode cX3_moveToBlack 4 = .ok (.idiv, 1) := by decide +kernel
theorem dX3_moveToBlack_5 : decode cX3_moveToBlack 5 = .ok (.sipush 255, 3) := by decide +kernel
theorem dX3_moveToBlack_8 : decode cX3_moveToBlack 8 = .ok (.aload_n 0, 1) := by decide +kernel
theorem dX3_moveToBlack_9 : decode cX3_moveToBlack 9 = .ok (.iconst 3, 1) := by decide +kernel
theorem dX3_moveToBlack_10 : decode cX3_moveToBlack 10 = .ok (.iload_n 1, 1) := by decide +kernel
theorem dX3_moveToBlack_11 : decode cX3_moveToBlack 11 = .ok (.invokevirtual 38, 3) := by decide +kernel
theorem dX3_moveToBlack_14 : decode cX3_moveToBlack 14 = .ok (.isub, 1) := by decide +kernel
theorem dX3_moveToBlack_15 : decode cX3_moveToBlack 15 = .ok (.invokestatic 65, 3) := by decide +kernel
theorem dX3_moveToBlack_18 : decode cX3_moveToBlack 18 = .ok (.istore_n 3, 1) := by decide +kernel
theorem dX3_moveToBlack_19 : decode cX3_moveToBlack 19 = .ok (.iconst 0, 1) := by decide +kernel
theorem dX3_moveToBlack_20 : decode cX3_moveToBlack 20 = .ok (.istore 4, 2) := by decide +kernel
theorem dX3_moveToBlack_22 : decode cX3_moveToBlack 22 = .ok (.iload 4, 2) := by decide +kernel
theorem dX3_moveToBlack_24 : decode cX3_moveToBlack 24 = .ok (.iconst 3, 1) := by decide +kernel
theorem dX3_moveToBlack_25 : decode cX3_moveToBlack 25 = .ok (.if_icmp .ge 21, 3) := by decide +kernel
theorem dX3_moveToBlack_28 : decode cX3_moveToBlack 28 = .ok (.iload_n 3, 1) := by decide +kernel
theorem dX3_moveToBlack_29 : decode cX3_moveToBlack 29 = .ok (.aload_n 0, 1) := by decide +kernel
theorem dX3_moveToBlack_30 : decode cX3_moveToBlack 30 = .ok (.iload 4, 2) := by decide +kernel
theorem dX3_moveToBlack_32 : decode cX3_moveToBlack 32 = .ok (.iload_n 1, 1) := by decide +kernel
theorem dX3_moveToBlack_33 : decode cX3_moveToBlack 33 = .ok (.invokevirtual 38, 3) := by decide +kernel
theorem dX3_moveToBlack_36 : decode cX3_moveToBlack 36 = .ok (.invokestatic 65, 3) := by decide +kernel
theorem dX3_moveToBlack_39 : decode cX3_moveToBlack 39 = .ok (.istore_n 3, 1) := by decide +kernel
theorem dX3_moveToBlack_40 : decode cX3_moveToBlack 40 = .ok (.iinc 4 1, 3) := by decide +kernel
theorem dX3_moveToBlack_43 : decode cX3_moveToBlack 43 = .ok (.goto (-21), 3) := by decide +kernel
theorem dX3_moveToBlack_46 : decode cX3_moveToBlack 46 = .ok (.iconst 0, 1) := by decide +kernel
theorem dX3_moveToBlack_47 : decode cX3_moveToBlack 47 = .ok (.istore 4, 2) := by decide +kernel
theorem dX3_moveToBlack_49 : decode cX3_moveToBlack 49 = .ok (.iload 4, 2) := by decide +kernel
theorem dX3_moveToBlack_51 : decode cX3_moveToBlack 51 = .ok (.iconst 3, 1) := by decide +kernel
theorem dX3_moveToBlack_52 : decode cX3_moveToBlack 52 = .ok (.if_icmp .ge 27, 3) := by decide +kernel
theorem dX3_moveToBlack_55 : decode cX3_moveToBlack 55 = .ok (.aload_n 0, 1) := by decide +kernel
theorem dX3_moveToBlack_56 : decode cX3_moveToBlack 56 = .ok (.getfield 34, 3) := by decide +kernel
theorem dX3_moveToBlack_59 : decode cX3_moveToBlack 59 = .ok (.iload 4, 2) := by decide +kernel
theorem dX3_moveToBlack_61 : decode cX3_moveToBlack 61 = .ok (.aload_n 0, 1) := by decide +kernel
theorem dX3_moveToBlack_62 : decode cX3_moveToBlack 62 = .ok (.getfield 31, 3) := by decide +kernel
theorem dX3_moveToBlack_65 : decode cX3_moveToBlack 65 = .ok (.imul, 1) := by decide +kernel
theorem dX3_moveToBlack_66 : decode cX3_moveToBlack 66 = .ok (.iload_n 1, 1) := by decide +kernel
theorem dX3_moveToBlack_67 : decode cX3_moveToBlack 67 = .ok (.iadd, 1) := by decide +kernel
theorem dX3_moveToBlack_68 : decode cX3_moveToBlack 68 = .ok (.dup2, 1) := by decide +kernel
theorem dX3_moveToBlack_69 : decode cX3_moveToBlack 69 = .ok (.iaload, 1) := by decide +kernel
theorem dX3_moveToBlack_70 : decode cX3_moveToBlack 70 = .ok (.iload_n 3, 1) := by decide +kernel
theorem dX3_moveToBlack_71 : decode cX3_moveToBlack 71 = .ok (.isub, 1) := by decide +kernel
theorem dX3_moveToBlack_72 : decode cX3_moveToBlack 72 = .ok (.iastore, 1) := by decide +kernel
theorem dX3_moveToBlack_73 : decode cX3_moveToBlack 73 = .ok (.iinc 4 1, 3) := by decide +kernel
theorem dX3_moveToBlack_76 : decode cX3_moveToBlack 76 = .ok (.goto (-27), 3) := by decide +kernel
theorem dX3_moveToBlack_79 : decode cX3_moveToBlack 79 = .ok (.aload_n 0, 1) := by decide +kernel
theorem dX3_moveToBlack_80 : decode cX3_moveToBlack 80 = .ok (.getfield 34, 3) := by decide +kernel
theorem dX3_moveToBlack_83 : decode cX3_moveToBlack 83 = .ok (.iconst 3, 1) := by decide +kernel
theorem dX3_moveToBlack_84 : decode cX3_moveToBlack 84 = .ok (.aload_n 0, 1) := by decide +kernel
theorem dX3_moveToBlack_85 : decode cX3_moveToBlack 85 = .ok (.getfield 31, 3) := by decide +kernel
theorem dX3_moveToBlack_88 : decode cX3_moveToBlack 88 = .ok (.imul, 1) := by decide +kernel
theorem dX3_moveToBlack_89 : decode cX3_moveToBlack 89 = .ok (.iload_n 1, 1) := by decide +kernel
theorem dX3_moveToBlack_90 : decode cX3_moveToBlack 90 = .ok (.iadd, 1) := by decide +kernel
theorem dX3_moveToBlack_91 : decode cX3_moveToBlack 91 = .ok (.dup2, 1) := by decide +kernel
theorem dX3_moveToBlack_92 : decode cX3_moveToBlack 92 = .ok (.iaload, 1) := by decide +kernel
theorem dX3_moveToBlack_93 : decode cX3_moveToBlack 93 = .ok (.iload_n 3, 1) := by decide +kernel
theorem dX3_moveToBlack_94 : decode cX3_moveToBlack 94 = .ok (.iadd, 1) := by decide +kernel
theorem dX3_moveToBlack_95 : decode cX3_moveToBlack 95 = .ok (.iastore, 1) := by decide +kernel
theorem dX3_moveToBlack_96 : decode cX3_moveToBlack 96 = .ok (.return_, 1) := by decide +kernel
theorem dX3_shrinkToLimit_0 : decode cX3_shrinkToLimit 0 = .ok (.aload_n 0, 1) := by decide +kernel
theorem dX3_shrinkToLimit_1 : decode cX3_shrinkToLimit 1 = .ok (.iload_n 1, 1) := by decide +kernel
theorem dX3_shrinkToLimit_2 : decode cX3_shrinkToLimit 2 = .ok (.invokevirtual 53, 3) := by decide +kernel
theorem dX3_shrinkToLimit_5 : decode cX3_shrinkToLimit 5 = .ok (.istore_n 2, 1) := by decide +kernel
theorem dX3_shrinkToLimit_6 : decode cX3_shrinkToLimit 6 = .ok (.iload_n 2, 1) := by decide +kernel
theorem dX3_shrinkToLimit_7 : decode cX3_shrinkToLimit 7 = .ok (.aload_n 0, 1) := by decide +kernel
theorem dX3_shrinkToLimit_8 : decode cX3_shrinkToLimit 8 = .ok (.getfield 18, 3) := by decide +kernel
theorem dX3_shrinkToLimit_11 : decode cX3_shrinkToLimit 11 = .ok (.if_icmp .gt 4, 3) := by decide +kernel
theorem dX3_shrinkToLimit_14 : decode cX3_shrinkToLimit 14 = .ok (.return_, 1) := by decide +kernel
theorem dX3_shrinkToLimit_15 : decode cX3_shrinkToLimit 15 = .ok (.aload_n 0, 1) := by decide +kernel
theorem dX3_shrinkToLimit_16 : decode cX3_shrinkToLimit 16 = .ok (.iconst 3, 1) := by decide +kernel
theorem dX3_shrinkToLimit_17 : decode cX3_shrinkToLimit 17 = .ok (.iload_n 1, 1) := by decide +kernel
theorem dX3_shrinkToLimit_18 : decode cX3_shrinkToLimit 18 = .ok (.invokevirtual 38, 3) := by decide +kernel
theorem dX3_shrinkToLimit_21 : decode cX3_shrinkToLimit 21 = .ok (.istore_n 3, 1) := by decide +kernel
theorem dX3_shrinkToLimit_22 : decode cX3_shrinkToLimit 22 = .ok (.iconst 0, 1) := by decide +kernel
theorem dX3_shrinkToLimit_23 : decode cX3_shrinkToLimit 23 = .ok (.aload_n 0, 1) := by decide +kernel
theorem dX3_shrinkToLimit_24 : decode cX3_shrinkToLimit 24 = .ok (.getfield 18, 3) := by decide +kernel
theorem dX3_shrinkToLimit_27 : decode cX3_shrinkToLimit 27 = .ok (.iload_n 3, 1) := by decide +kernel
theorem dX3_shrinkToLimit_28 : decode cX3_shrinkToLimit 28 = .ok (.isub, 1) := by decide +kernel
theorem dX3_shrinkToLimit_29 : decode cX3_shrinkToLimit 29 = .ok (.invokestatic 42, 3) := by decide +kernel
theorem dX3_shrinkToLimit_32 : decode cX3_shrinkToLimit 32 = .ok (.istore 4, 2) := by decide +kernel
theorem dX3_shrinkToLimit_34 : decode cX3_shrinkToLimit 34 = .ok (.iload_n 2, 1) := by decide +kernel
theorem dX3_shrinkToLimit_35 : decode cX3_shrinkToLimit 35 = .ok (.iload_n 3, 1) := by decide +kernel
theorem dX3_shrinkToLimit_36 : decode cX3_shrinkToLimit 36 = .ok (.isub, 1) := by decide +kernel
theorem dX3_shrinkToLimit_37 : decode cX3_shrinkToLimit 37 = .ok (.istore 5, 2) := by decide +kernel
theorem dX3_shrinkToLimit_39 : decode cX3_shrinkToLimit 39 = .ok (.iconst 0, 1) := by decide +kernel
theorem dX3_shrinkToLimit_40 : decode cX3_shrinkToLimit 40 = .ok (.istore 6, 2) := by decide +kernel
theorem dX3_shrinkToLimit_42 : decode cX3_shrinkToLimit 42 = .ok (.iload 6, 2) := by decide +kernel
theorem dX3_shrinkToLimit_44 : decode cX3_shrinkToLimit 44 = .ok (.aload_n 0, 1) := by decide +kernel
theorem dX3_shrinkToLimit_45 : decode cX3_shrinkToLimit 45 = .ok (.getfield 14, 3) := by decide +kernel
theorem dX3_shrinkToLimit_48 : decode cX3_shrinkToLimit 48 = .ok (.getfield 47, 3) := by decide +kernel
theorem dX3_shrinkToLimit_51 : decode cX3_shrinkToLimit 51 = .ok (.if_icmp .ge 47, 3) := by decide +kernel
theorem dX3_shrinkToLimit_54 : decode cX3_shrinkToLimit 54 = .ok (.iload 6, 2) := by decide +kernel
theorem dX3_shrinkToLimit_56 : decode cX3_shrinkToLimit 56 = .ok (.iconst 3, 1) := by decide +kernel
theorem dX3_shrinkToLimit_57 : decode cX3_shrinkToLimit 57 = .ok (.if_icmp .eq 35, 3) := by decide +kernel
theorem dX3_shrinkToLimit_60 : decode cX3_shrinkToLimit 60 = .ok (.iload 5, 2) := by decide +kernel
theorem dX3_shrinkToLimit_62 : decode cX3_shrinkToLimit 62 = .ok (.ifCond .le 30, 3) := by decide +kernel
theorem dX3_shrinkToLimit_65 : decode cX3_shrinkToLimit 65 = .ok (.aload_n 0, 1) := by decide +kernel
theorem dX3_shrinkToLimit_66 : decode cX3_shrinkToLimit 66 = .ok (.getfield 34, 3) := by decide +kernel
theorem dX3_shrinkToLimit_69 : decode cX3_shrinkToLimit 69 = .ok (.iload 6, 2) := by decide +kernel
theorem dX3_shrinkToLimit_71 : decode cX3_shrinkToLimit 71 = .ok (.aload_n 0, 1) := by decide +kernel
theorem dX3_shrinkToLimit_72 : decode cX3_shrinkToLimit 72 = .ok (.getfield 31, 3) := by decide +kernel
theorem dX3_shrinkToLimit_75 : decode cX3_shrinkToLimit 75 = .ok (.imul, 1) := by decide +kernel
theorem dX3_shrinkToLimit_76 : decode cX3_shrinkToLimit 76 = .ok (.iload_n 1, 1) := by decide +kernel
theorem dX3_shrinkToLimit_77 : decode cX3_shrinkToLimit 77 = .ok (.iadd, 1) := by decide +kernel
theorem dX3_shrinkToLimit_78 : decode cX3_shrinkToLimit 78 = .ok (.aload_n 0, 1) := by decide +kernel
theorem dX3_shrinkToLimit_79 : decode cX3_shrinkToLimit 79 = .ok (.iload 6, 2) := by decide +kernel
theorem dX3_shrinkToLimit_81 : decode cX3_shrinkToLimit 81 = .ok (.iload_n 1, 1) := by decide +kernel
theorem dX3_shrinkToLimit_82 : decode cX3_shrinkToLimit 82 = .ok (.invokevirtual 38, 3) := by decide +kernel
theorem dX3_shrinkToLimit_85 : decode cX3_shrinkToLimit 85 = .ok (.iload 4, 2) := by decide +kernel
theorem dX3_shrinkToLimit_87 : decode cX3_shrinkToLimit 87 = .ok (.imul, 1) := by decide +kernel
theorem dX3_shrinkToLimit_88 : decode cX3_shrinkToLimit 88 = .ok (.iload 5, 2) := by decide +kernel
theorem dX3_shrinkToLimit_90 : decode cX3_shrinkToLimit 90 = .ok (.idiv, 1) := by decide +kernel
theorem dX3_shrinkToLimit_91 : decode cX3_shrinkToLimit 91 = .ok (.iastore, 1) := by decide +kernel
theorem dX3_shrinkToLimit_92 : decode cX3_shrinkToLimit 92 = .ok (.iinc 6 1, 3) := by decide +kernel
theorem dX3_shrinkToLimit_95 : decode cX3_shrinkToLimit 95 = .ok (.goto (-53), 3) := by decide +kernel
theorem dX3_shrinkToLimit_98 : decode cX3_shrinkToLimit 98 = .ok (.aload_n 0, 1) := by decide +kernel
theorem dX3_shrinkToLimit_99 : decode cX3_shrinkToLimit 99 = .ok (.getfield 34, 3) := by decide +kernel
theorem dX3_shrinkToLimit_102 : decode cX3_shrinkToLimit 102 = .ok (.iconst 3, 1) := by decide +kernel
theorem dX3_shrinkToLimit_103 : decode cX3_shrinkToLimit 103 = .ok (.aload_n 0, 1) := by decide +kernel
theorem dX3_shrinkToLimit_104 : decode cX3_shrinkToLimit 104 = .ok (.getfield 31, 3) := by decide +kernel
theorem dX3_shrinkToLimit_107 : decode cX3_shrinkToLimit 107 = .ok (.imul, 1) := by decide +kernel
theorem dX3_shrinkToLimit_108 : decode cX3_shrinkToLimit 108 = .ok (.iload_n 1, 1) := by decide +kernel
theorem dX3_shrinkToLimit_109 : decode cX3_shrinkToLimit 109 = .ok (.iadd, 1) := by decide +kernel
theorem dX3_shrinkToLimit_110 : decode cX3_shrinkToLimit 110 = .ok (.iload_n 3, 1) := by decide +kernel
theorem dX3_shrinkToLimit_111 : decode cX3_shrinkToLimit 111 = .ok (.aload_n 0, 1) := by decide +kernel
theorem dX3_shrinkToLimit_112 : decode cX3_shrinkToLimit 112 = .ok (.getfield 18, 3) := by decide +kernel
theorem dX3_shrinkToLimit_115 : decode cX3_shrinkToLimit 115 = .ok (.invokestatic 65, 3) := by decide +kernel
theorem dX3_shrinkToLimit_118 : decode cX3_shrinkToLimit 118 = .ok (.iastore, 1) := by decide +kernel
theorem dX3_shrinkToLimit_119 : decode cX3_shrinkToLimit 119 = .ok (.return_, 1) := by decide +kernel
theorem dX3_bandOf_0 : decode cX3_bandOf 0 = .ok (.sipush 255, 3) := by decide +kernel
theorem dX3_bandOf_3 : decode cX3_bandOf 3 = .ok (.istore 4, 2) := by decide +kernel
theorem dX3_bandOf_5 : decode cX3_bandOf 5 = .ok (.iconst 0, 1) := by decide +kernel
theorem dX3_bandOf_6 : decode cX3_bandOf 6 = .ok (.istore 5, 2) := by decide +kernel
theorem dX3_bandOf_8 : decode cX3_bandOf 8 = .ok (.iload 5, 2) := by decide +kernel
theorem dX3_bandOf_10 : decode cX3_bandOf 10 = .ok (.aload_n 0, 1) := by decide +kernel
theorem dX3_bandOf_11 : decode cX3_bandOf 11 = .ok (.getfield 14, 3) := by decide +kernel
theorem dX3_bandOf_14 : decode cX3_bandOf 14 = .ok (.getfield 47, 3) := by decide +kernel
theorem dX3_bandOf_17 : decode cX3_bandOf 17 = .ok (.if_icmp .ge 47, 3) := by decide +kernel
theorem dX3_bandOf_20 : decode cX3_bandOf 20 = .ok (.aload_n 0, 1) := by decide +kernel
theorem dX3_bandOf_21 : decode cX3_bandOf 21 = .ok (.iload 5, 2) := by decide +kernel
theorem dX3_bandOf_23 : decode cX3_bandOf 23 = .ok (.iload_n 2, 1) := by decide +kernel
theorem dX3_bandOf_24 : decode cX3_bandOf 24 = .ok (.iload_n 3, 1) := by decide +kernel
theorem dX3_bandOf_25 : decode cX3_bandOf 25 = .ok (.invokevirtual 68, 3) := by decide +kernel
theorem dX3_bandOf_28 : decode cX3_bandOf 28 = .ok (.aload_n 0, 1) := by decide +kernel
theorem dX3_bandOf_29 : decode cX3_bandOf 29 = .ok (.getfield 14, 3) := by decide +kernel
theorem dX3_bandOf_32 : decode cX3_bandOf 32 = .ok (.iload 5, 2) := by decide +kernel
theorem dX3_bandOf_34 : decode cX3_bandOf 34 = .ok (.iload_n 1, 1) := by decide +kernel
theorem dX3_bandOf_35 : decode cX3_bandOf 35 = .ok (.invokevirtual 72, 3) := by decide +kernel
theorem dX3_bandOf_38 : decode cX3_bandOf 38 = .ok (.imul, 1) := by decide +kernel
theorem dX3_bandOf_39 : decode cX3_bandOf 39 = .ok (.istore 6, 2) := by decide +kernel
theorem dX3_bandOf_41 : decode cX3_bandOf 41 = .ok (.iload 4, 2) := by decide +kernel
theorem dX3_bandOf_43 : decode cX3_bandOf 43 = .ok (.ldc 75, 2) := by decide +kernel
theorem dX3_bandOf_45 : decode cX3_bandOf 45 = .ok (.iload 6, 2) := by decide +kernel
theorem dX3_bandOf_47 : decode cX3_bandOf 47 = .ok (.isub, 1) := by decide +kernel
theorem dX3_bandOf_48 : decode cX3_bandOf 48 = .ok (.imul, 1) := by decide +kernel
theorem dX3_bandOf_49 : decode cX3_bandOf 49 = .ok (.sipush 32512, 3) := by decide +kernel
theorem dX3_bandOf_52 : decode cX3_bandOf 52 = .ok (.iadd, 1) := by decide +kernel
theorem dX3_bandOf_53 : decode cX3_bandOf 53 = .ok (.ldc 75, 2) := by decide +kernel
theorem dX3_bandOf_55 : decode cX3_bandOf 55 = .ok (.idiv, 1) := by decide +kernel
theorem dX3_bandOf_56 : decode cX3_bandOf 56 = .ok (.istore 4, 2) := by decide +kernel
theorem dX3_bandOf_58 : decode cX3_bandOf 58 = .ok (.iinc 5 1, 3) := by decide +kernel
theorem dX3_bandOf_61 : decode cX3_bandOf 61 = .ok (.goto (-53), 3) := by decide +kernel
theorem dX3_bandOf_64 : decode cX3_bandOf 64 = .ok (.iload 4, 2) := by decide +kernel
theorem dX3_bandOf_66 : decode cX3_bandOf 66 = .ok (.ireturn, 1) := by decide +kernel
theorem dX3_lightness_0 : decode cX3_lightness 0 = .ok (.bipush 30, 2) := by decide +kernel
theorem dX3_lightness_2 : decode cX3_lightness 2 = .ok (.aload_n 0, 1) := by decide +kernel
theorem dX3_lightness_3 : decode cX3_lightness 3 = .ok (.iconst 0, 1) := by decide +kernel
theorem dX3_lightness_4 : decode cX3_lightness 4 = .ok (.iload_n 1, 1) := by decide +kernel
theorem dX3_lightness_5 : decode cX3_lightness 5 = .ok (.iconst (-1), 1) := by decide +kernel
theorem dX3_lightness_6 : decode cX3_lightness 6 = .ok (.invokevirtual 76, 3) := by decide +kernel
theorem dX3_lightness_9 : decode cX3_lightness 9 = .ok (.imul, 1) := by decide +kernel
theorem dX3_lightness_10 : decode cX3_lightness 10 = .ok (.bipush 59, 2) := by decide +kernel
theorem dX3_lightness_12 : decode cX3_lightness 12 = .ok (.aload_n 0, 1) := by decide +kernel
theorem dX3_lightness_13 : decode cX3_lightness 13 = .ok (.iconst 1, 1) := by decide +kernel
theorem dX3_lightness_14 : decode cX3_lightness 14 = .ok (.iload_n 1, 1) := by decide +kernel
theorem dX3_lightness_15 : decode cX3_lightness 15 = .ok (.iconst (-1), 1) := by decide +kernel
theorem dX3_lightness_16 : decode cX3_lightness 16 = .ok (.invokevirtual 76, 3) := by decide +kernel
theorem dX3_lightness_19 : decode cX3_lightness 19 = .ok (.imul, 1) := by decide +kernel
theorem dX3_lightness_20 : decode cX3_lightness 20 = .ok (.iadd, 1) := by decide +kernel
theorem dX3_lightness_21 : decode cX3_lightness 21 = .ok (.bipush 11, 2) := by decide +kernel
theorem dX3_lightness_23 : decode cX3_lightness 23 = .ok (.aload_n 0, 1) := by decide +kernel
theorem dX3_lightness_24 : decode cX3_lightness 24 = .ok (.iconst 2, 1) := by decide +kernel
theorem dX3_lightness_25 : decode cX3_lightness 25 = .ok (.iload_n 1, 1) := by decide +kernel
theorem dX3_lightness_26 : decode cX3_lightness 26 = .ok (.iconst (-1), 1) := by decide +kernel
theorem dX3_lightness_27 : decode cX3_lightness 27 = .ok (.invokevirtual 76, 3) := by decide +kernel
theorem dX3_lightness_30 : decode cX3_lightness 30 = .ok (.imul, 1) := by decide +kernel
theorem dX3_lightness_31 : decode cX3_lightness 31 = .ok (.iadd, 1) := by decide +kernel
theorem dX3_lightness_32 : decode cX3_lightness 32 = .ok (.bipush 100, 2) := by decide +kernel
theorem dX3_lightness_34 : decode cX3_lightness 34 = .ok (.idiv, 1) := by decide +kernel
theorem dX3_lightness_35 : decode cX3_lightness 35 = .ok (.ireturn, 1) := by decide +kernel
theorem dX3_unlike_0 : decode cX3_unlike 0 = .ok (.iconst 0, 1) := by decide +kernel
theorem dX3_unlike_1 : decode cX3_unlike 1 = .ok (.istore_n 3, 1) := by decide +kernel
theorem dX3_unlike_2 : decode cX3_unlike 2 = .ok (.iconst 0, 1) := by decide +kernel
theorem dX3_unlike_3 : decode cX3_unlike 3 = .ok (.istore 4, 2) := by decide +kernel
theorem dX3_unlike_5 : decode cX3_unlike 5 = .ok (.iconst 0, 1) := by decide +kernel
theorem dX3_unlike_6 : decode cX3_unlike 6 = .ok (.istore 5, 2) := by decide +kernel
theorem dX3_unlike_8 : decode cX3_unlike 8 = .ok (.iload 5, 2) := by decide +kernel
theorem dX3_unlike_10 : decode cX3_unlike 10 = .ok (.aload_n 0, 1) := by decide +kernel
theorem dX3_unlike_11 : decode cX3_unlike 11 = .ok (.getfield 14, 3) := by decide +kernel
theorem dX3_unlike_14 : decode cX3_unlike 14 = .ok (.getfield 47, 3) := by decide +kernel
theorem dX3_unlike_17 : decode cX3_unlike 17 = .ok (.if_icmp .ge 91, 3) := by decide +kernel
theorem dX3_unlike_20 : decode cX3_unlike 20 = .ok (.aload_n 0, 1) := by decide +kernel
theorem dX3_unlike_21 : decode cX3_unlike 21 = .ok (.iload 5, 2) := by decide +kernel
theorem dX3_unlike_23 : decode cX3_unlike 23 = .ok (.iload_n 1, 1) := by decide +kernel
theorem dX3_unlike_24 : decode cX3_unlike 24 = .ok (.invokevirtual 38, 3) := by decide +kernel
theorem dX3_unlike_27 : decode cX3_unlike 27 = .ok (.bipush 25, 2) := by decide +kernel
theorem dX3_unlike_29 : decode cX3_unlike 29 = .ok (.if_icmp .lt 7, 3) := by decide +kernel
theorem dX3_unlike_32 : decode cX3_unlike 32 = .ok (.iconst 1, 1) := by decide +kernel
theorem dX3_unlike_33 : decode cX3_unlike 33 = .ok (.goto 4, 3) := by decide +kernel
theorem dX3_unlike_36 : decode cX3_unlike 36 = .ok (.iconst 0, 1) := by decide +kernel
theorem dX3_unlike_37 : decode cX3_unlike 37 = .ok (.istore 6, 2) := by decide +kernel
theorem dX3_unlike_39 : decode cX3_unlike 39 = .ok (.aload_n 0, 1) := by decide +kernel
theorem dX3_unlike_40 : decode cX3_unlike 40 = .ok (.iload 5, 2) := by decide +kernel
theorem dX3_unlike_42 : decode cX3_unlike 42 = .ok (.iload_n 2, 1) := by decide +kernel
theorem dX3_unlike_43 : decode cX3_unlike 43 = .ok (.invokevirtual 38, 3) := by decide +kernel
theorem dX3_unlike_46 : decode cX3_unlike 46 = .ok (.bipush 25, 2) := by decide +kernel
theorem dX3_unlike_48 : decode cX3_unlike 48 = .ok (.if_icmp .lt 7, 3) := by decide +kernel
theorem dX3_unlike_51 : decode cX3_unlike 51 = .ok (.iconst 1, 1) := by decide +kernel
theorem dX3_unlike_52 : decode cX3_unlike 52 = .ok (.goto 4, 3) := by decide +kernel
theorem dX3_unlike_55 : decode cX3_unlike 55 = .ok (.iconst 0, 1) := by decide +kernel
theorem dX3_unlike_56 : decode cX3_unlike 56 = .ok (.istore 7, 2) := by decide +kernel
theorem dX3_unlike_58 : decode cX3_unlike 58 = .ok (.iload 6, 2) := by decide +kernel
theorem dX3_unlike_60 : decode cX3_unlike 60 = .ok (.ifCond .eq 10, 3) := by decide +kernel
theorem dX3_unlike_63 : decode cX3_unlike 63 = .ok (.iload 7, 2) := by decide +kernel
theorem dX3_unlike_65 : decode cX3_unlike 65 = .ok (.ifCond .eq 5, 3) := by decide +kernel
theorem dX3_unlike_68 : decode cX3_unlike 68 = .ok (.iconst 0, 1) := by decide +kernel
theorem dX3_unlike_69 : decode cX3_unlike 69 = .ok (.ireturn, 1) := by decide +kernel
theorem dX3_unlike_70 : decode cX3_unlike 70 = .ok (.iload_n 3, 1) := by decide +kernel
theorem dX3_unlike_71 : decode cX3_unlike 71 = .ok (.ifCond .ne 8, 3) := by decide +kernel
theorem dX3_unlike_74 : decode cX3_unlike 74 = .ok (.iload 6, 2) := by decide +kernel
theorem dX3_unlike_76 : decode cX3_unlike 76 = .ok (.ifCond .eq 7, 3) := by decide +kernel
theorem dX3_unlike_79 : decode cX3_unlike 79 = .ok (.iconst 1, 1) := by decide +kernel
theorem dX3_unlike_80 : decode cX3_unlike 80 = .ok (.goto 4, 3) := by decide +kernel
theorem dX3_unlike_83 : decode cX3_unlike 83 = .ok (.iconst 0, 1) := by decide +kernel
theorem dX3_unlike_84 : decode cX3_unlike 84 = .ok (.istore_n 3, 1) := by decide +kernel
theorem dX3_unlike_85 : decode cX3_unlike 85 = .ok (.iload 4, 2) := by decide +kernel
theorem dX3_unlike_87 : decode cX3_unlike 87 = .ok (.ifCond .ne 8, 3) := by decide +kernel
theorem dX3_unlike_90 : decode cX3_unlike 90 = .ok (.iload 7, 2) := by decide +kernel
theorem dX3_unlike_92 : decode cX3_unlike 92 = .ok (.ifCond .eq 7, 3) := by decide +kernel
theorem dX3_unlike_95 : decode cX3_unlike 95 = .ok (.iconst 1, 1) := by decide +kernel
theorem dX3_unlike_96 : decode cX3_unlike 96 = .ok (.goto 4, 3) := by decide +kernel
theorem dX3_unlike_99 : decode cX3_unlike 99 = .ok (.iconst 0, 1) := by decide +kernel
theorem dX3_unlike_100 : decode cX3_unlike 100 = .ok (.istore 4, 2) := by decide +kernel
theorem dX3_unlike_102 : decode cX3_unlike 102 = .ok (.iinc 5 1, 3) := by decide +kernel
theorem dX3_unlike_105 : decode cX3_unlike 105 = .ok (.goto (-97), 3) := by decide +kernel
theorem dX3_unlike_108 : decode cX3_unlike 108 = .ok (.iload_n 3, 1) := by decide +kernel
theorem dX3_unlike_109 : decode cX3_unlike 109 = .ok (.ifCond .eq 12, 3) := by decide +kernel
theorem dX3_unlike_112 : decode cX3_unlike 112 = .ok (.iload 4, 2) := by decide +kernel
theorem dX3_unlike_114 : decode cX3_unlike 114 = .ok (.ifCond .eq 7, 3) := by decide +kernel
theorem dX3_unlike_117 : decode cX3_unlike 117 = .ok (.iconst 1, 1) := by decide +kernel
theorem dX3_unlike_118 : decode cX3_unlike 118 = .ok (.goto 4, 3) := by decide +kernel
theorem dX3_unlike_121 : decode cX3_unlike 121 = .ok (.iconst 0, 1) := by decide +kernel
theorem dX3_unlike_122 : decode cX3_unlike 122 = .ok (.ireturn, 1) := by decide +kernel
theorem dX3_lenderOf_0 : decode cX3_lenderOf 0 = .ok (.iload_n 1, 1) := by decide +kernel
theorem dX3_lenderOf_1 : decode cX3_lenderOf 1 = .ok (.aload_n 0, 1) := by decide +kernel
theorem dX3_lenderOf_2 : decode cX3_lenderOf 2 = .ok (.getfield 25, 3) := by decide +kernel
theorem dX3_lenderOf_5 : decode cX3_lenderOf 5 = .ok (.iload_n 2, 1) := by decide +kernel
theorem dX3_lenderOf_6 : decode cX3_lenderOf 6 = .ok (.imul, 1) := by decide +kernel
theorem dX3_lenderOf_7 : decode cX3_lenderOf 7 = .ok (.iadd, 1) := by decide +kernel
theorem dX3_lenderOf_8 : decode cX3_lenderOf 8 = .ok (.istore_n 3, 1) := by decide +kernel
theorem dX3_lenderOf_9 : decode cX3_lenderOf 9 = .ok (.aload_n 0, 1) := by decide +kernel
theorem dX3_lenderOf_10 : decode cX3_lenderOf 10 = .ok (.iload_n 3, 1) := by decide +kernel
theorem dX3_lenderOf_11 : decode cX3_lenderOf 11 = .ok (.invokevirtual 79, 3) := by decide +kernel
theorem dX3_lenderOf_14 : decode cX3_lenderOf 14 = .ok (.istore 4, 2) := by decide +kernel
theorem dX3_lenderOf_16 : decode cX3_lenderOf 16 = .ok (.iconst (-1), 1) := by decide +kernel
theorem dX3_lenderOf_17 : decode cX3_lenderOf 17 = .ok (.istore 5, 2) := by decide +kernel
theorem dX3_lenderOf_19 : decode cX3_lenderOf 19 = .ok (.ldc 84, 2) := by decide +kernel
theorem dX3_lenderOf_21 : decode cX3_lenderOf 21 = .ok (.istore 6, 2) := by decide +kernel
theorem dX3_lenderOf_23 : decode cX3_lenderOf 23 = .ok (.iconst 0, 1) := by decide +kernel
theorem dX3_lenderOf_24 : decode cX3_lenderOf 24 = .ok (.iload_n 2, 1) := by decide +kernel
theorem dX3_lenderOf_25 : decode cX3_lenderOf 25 = .ok (.aload_n 0, 1) := by decide +kernel
theorem dX3_lenderOf_26 : decode cX3_lenderOf 26 = .ok (.getfield 22, 3) := by decide +kernel
theorem dX3_lenderOf_29 : decode cX3_lenderOf 29 = .ok (.isub, 1) := by decide +kernel
theorem dX3_lenderOf_30 : decode cX3_lenderOf 30 = .ok (.invokestatic 42, 3) := by decide +kernel
theorem dX3_lenderOf_33 : decode cX3_lenderOf 33 = .ok (.istore 7, 2) := by decide +kernel
theorem dX3_lenderOf_35 : decode cX3_lenderOf 35 = .ok (.iload 7, 2) := by decide +kernel
theorem dX3_lenderOf_37 : decode cX3_lenderOf 37 = .ok (.aload_n 0, 1) := by decide +kernel
theorem dX3_lenderOf_38 : decode cX3_lenderOf 38 = .ok (.getfield 28, 3) := by decide +kernel
theorem dX3_lenderOf_41 : decode cX3_lenderOf 41 = .ok (.iconst 1, 1) := by decide +kernel
theorem dX3_lenderOf_42 : decode cX3_lenderOf 42 = .ok (.isub, 1) := by decide +kernel
theorem dX3_lenderOf_43 : decode cX3_lenderOf 43 = .ok (.iload_n 2, 1) := by decide +kernel
theorem dX3_lenderOf_44 : decode cX3_lenderOf 44 = .ok (.aload_n 0, 1) := by decide +kernel
theorem dX3_lenderOf_45 : decode cX3_lenderOf 45 = .ok (.getfield 22, 3) := by decide +kernel
theorem dX3_lenderOf_48 : decode cX3_lenderOf 48 = .ok (.iadd, 1) := by decide +kernel
theorem dX3_lenderOf_49 : decode cX3_lenderOf 49 = .ok (.invokestatic 65, 3) := by decide +kernel
theorem dX3_lenderOf_52 : decode cX3_lenderOf 52 = .ok (.if_icmp .gt 116, 3) := by decide +kernel
theorem dX3_lenderOf_55 : decode cX3_lenderOf 55 = .ok (.iconst 0, 1) := by decide +kernel
theorem dX3_lenderOf_56 : decode cX3_lenderOf 56 = .ok (.iload_n 1, 1) := by decide +kernel
theorem dX3_lenderOf_57 : decode cX3_lenderOf 57 = .ok (.aload_n 0, 1) := by decide +kernel
theorem dX3_lenderOf_58 : decode cX3_lenderOf 58 = .ok (.getfield 22, 3) := by decide +kernel
theorem dX3_lenderOf_61 : decode cX3_lenderOf 61 = .ok (.isub, 1) := by decide +kernel
theorem dX3_lenderOf_62 : decode cX3_lenderOf 62 = .ok (.invokestatic 42, 3) := by decide +kernel
theorem dX3_lenderOf_65 : decode cX3_lenderOf 65 = .ok (.istore 8, 2) := by decide +kernel
theorem dX3_lenderOf_67 : decode cX3_lenderOf 67 = .ok (.iload 8, 2) := by decide +kernel
theorem dX3_lenderOf_69 : decode cX3_lenderOf 69 = .ok (.aload_n 0, 1) := by decide +kernel
theorem dX3_lenderOf_70 : decode cX3_lenderOf 70 = .ok (.getfield 25, 3) := by decide +kernel
theorem dX3_lenderOf_73 : decode cX3_lenderOf 73 = .ok (.iconst 1, 1) := by decide +kernel
theorem dX3_lenderOf_74 : decode cX3_lenderOf 74 = .ok (.isub, 1) := by decide +kernel
theorem dX3_lenderOf_75 : decode cX3_lenderOf 75 = .ok (.iload_n 1, 1) := by decide +kernel
theorem dX3_lenderOf_76 : decode cX3_lenderOf 76 = .ok (.aload_n 0, 1) := by decide +kernel
theorem dX3_lenderOf_77 : decode cX3_lenderOf 77 = .ok (.getfield 22, 3) := by decide +kernel
theorem dX3_lenderOf_80 : decode cX3_lenderOf 80 = .ok (.iadd, 1) := by decide +kernel
theorem dX3_lenderOf_81 : decode cX3_lenderOf 81 = .ok (.invokestatic 65, 3) := by decide +kernel
theorem dX3_lenderOf_84 : decode cX3_lenderOf 84 = .ok (.if_icmp .gt 78, 3) := by decide +kernel
theorem dX3_lenderOf_87 : decode cX3_lenderOf 87 = .ok (.iload 8, 2) := by decide +kernel
theorem dX3_lenderOf_89 : decode cX3_lenderOf 89 = .ok (.aload_n 0, 1) := by decide +kernel
theorem dX3_lenderOf_90 : decode cX3_lenderOf 90 = .ok (.getfield 25, 3) := by decide +kernel
theorem dX3_lenderOf_93 : decode cX3_lenderOf 93 = .ok (.iload 7, 2) := by decide +kernel
theorem dX3_lenderOf_95 : decode cX3_lenderOf 95 = .ok (.imul, 1) := by decide +kernel
theorem dX3_lenderOf_96 : decode cX3_lenderOf 96 = .ok (.iadd, 1) := by decide +kernel
theorem dX3_lenderOf_97 : decode cX3_lenderOf 97 = .ok (.istore 9, 2) := by decide +kernel
theorem dX3_lenderOf_99 : decode cX3_lenderOf 99 = .ok (.iload 8, 2) := by decide +kernel
theorem dX3_lenderOf_101 : decode cX3_lenderOf 101 = .ok (.iload_n 1, 1) := by decide +kernel
theorem dX3_lenderOf_102 : decode cX3_lenderOf 102 = .ok (.isub, 1) := by decide +kernel
theorem dX3_lenderOf_103 : decode cX3_lenderOf 103 = .ok (.iload 8, 2) := by decide +kernel
theorem dX3_lenderOf_105 : decode cX3_lenderOf 105 = .ok (.iload_n 1, 1) := by decide +kernel
theorem dX3_lenderOf_106 : decode cX3_lenderOf 106 = .ok (.isub, 1) := by decide +kernel
theorem dX3_lenderOf_107 : decode cX3_lenderOf 107 = .ok (.imul, 1) := by decide +kernel
theorem dX3_lenderOf_108 : decode cX3_lenderOf 108 = .ok (.iload 7, 2) := by decide +kernel
theorem dX3_lenderOf_110 : decode cX3_lenderOf 110 = .ok (.iload_n 2, 1) := by decide +kernel
theorem dX3_lenderOf_111 : decode cX3_lenderOf 111 = .ok (.isub, 1) := by decide +kernel
theorem dX3_lenderOf_112 : decode cX3_lenderOf 112 = .ok (.iload 7, 2) := by decide +kernel
theorem dX3_lenderOf_114 : decode cX3_lenderOf 114 = .ok (.iload_n 2, 1) := by decide +kernel
theorem dX3_lenderOf_115 : decode cX3_lenderOf 115 = .ok (.isub, 1) := by decide +kernel
theorem dX3_lenderOf_116 : decode cX3_lenderOf 116 = .ok (.imul, 1) := by decide +kernel
theorem dX3_lenderOf_117 : decode cX3_lenderOf 117 = .ok (.iadd, 1) := by decide +kernel
theorem dX3_lenderOf_118 : decode cX3_lenderOf 118 = .ok (.istore 10, 2) := by decide +kernel
theorem dX3_lenderOf_120 : decode cX3_lenderOf 120 = .ok (.iload 10, 2) := by decide +kernel
theorem dX3_lenderOf_122 : decode cX3_lenderOf 122 = .ok (.iload 6, 2) := by decide +kernel
theorem dX3_lenderOf_124 : decode cX3_lenderOf 124 = .ok (.if_icmp .ge 32, 3) := by decide +kernel
theorem dX3_lenderOf_127 : decode cX3_lenderOf 127 = .ok (.aload_n 0, 1) := by decide +kernel
theorem dX3_lenderOf_128 : decode cX3_lenderOf 128 = .ok (.iload_n 3, 1) := by decide +kernel
theorem dX3_lenderOf_129 : decode cX3_lenderOf 129 = .ok (.iload 9, 2) := by decide +kernel
theorem dX3_lenderOf_131 : decode cX3_lenderOf 131 = .ok (.invokevirtual 85, 3) := by decide +kernel
theorem dX3_lenderOf_134 : decode cX3_lenderOf 134 = .ok (.ifCond .eq 22, 3) := by decide +kernel
theorem dX3_lenderOf_137 : decode cX3_lenderOf 137 = .ok (.aload_n 0, 1) := by decide +kernel
theorem dX3_lenderOf_138 : decode cX3_lenderOf 138 = .ok (.iload 9, 2) := by decide +kernel
theorem dX3_lenderOf_140 : decode cX3_lenderOf 140 = .ok (.invokevirtual 79, 3) := by decide +kernel
theorem dX3_lenderOf_143 : decode cX3_lenderOf 143 = .ok (.iload 4, 2) := by decide +kernel
theorem dX3_lenderOf_145 : decode cX3_lenderOf 145 = .ok (.if_icmp .le 11, 3) := by decide +kernel
theorem dX3_lenderOf_148 : decode cX3_lenderOf 148 = .ok (.iload 9, 2) := by decide +kernel
theorem dX3_lenderOf_150 : decode cX3_lenderOf 150 = .ok (.istore 5, 2) := by decide +kernel
theorem dX3_lenderOf_152 : decode cX3_lenderOf 152 = .ok (.iload 10, 2) := by decide +kernel
theorem dX3_lenderOf_154 : decode cX3_lenderOf 154 = .ok (.istore 6, 2) := by decide +kernel
theorem dX3_lenderOf_156 : decode cX3_lenderOf 156 = .ok (.iinc 8 1, 3) := by decide +kernel
theorem dX3_lenderOf_159 : decode cX3_lenderOf 159 = .ok (.goto (-92), 3) := by decide +kernel
theorem dX3_lenderOf_162 : decode cX3_lenderOf 162 = .ok (.iinc 7 1, 3) := by decide +kernel
theorem dX3_lenderOf_165 : decode cX3_lenderOf 165 = .ok (.goto (-130), 3) := by decide +kernel
theorem dX3_lenderOf_168 : decode cX3_lenderOf 168 = .ok (.iload 5, 2) := by decide +kernel
theorem dX3_lenderOf_170 : decode cX3_lenderOf 170 = .ok (.ireturn, 1) := by decide +kernel
theorem dX3_startsRun_0 : decode cX3_startsRun 0 = .ok (.iload_n 2, 1) := by decide +kernel
theorem dX3_startsRun_1 : decode cX3_startsRun 1 = .ok (.aload_n 0, 1) := by decide +kernel
theorem dX3_startsRun_2 : decode cX3_startsRun 2 = .ok (.getfield 25, 3) := by decide +kernel
theorem dX3_startsRun_5 : decode cX3_startsRun 5 = .ok (.irem, 1) := by decide +kernel
theorem dX3_startsRun_6 : decode cX3_startsRun 6 = .ok (.ifCond .eq 20, 3) := by decide +kernel
theorem dX3_startsRun_9 : decode cX3_startsRun 9 = .ok (.aload_n 0, 1) := by decide +kernel
theorem dX3_startsRun_10 : decode cX3_startsRun 10 = .ok (.iload_n 1, 1) := by decide +kernel
theorem dX3_startsRun_11 : decode cX3_startsRun 11 = .ok (.iload_n 2, 1) := by decide +kernel
theorem dX3_startsRun_12 : decode cX3_startsRun 12 = .ok (.invokevirtual 38, 3) := by decide +kernel
theorem dX3_startsRun_15 : decode cX3_startsRun 15 = .ok (.aload_n 0, 1) := by decide +kernel
theorem dX3_startsRun_16 : decode cX3_startsRun 16 = .ok (.iload_n 1, 1) := by decide +kernel
theorem dX3_startsRun_17 : decode cX3_startsRun 17 = .ok (.iload_n 2, 1) := by decide +kernel
theorem dX3_startsRun_18 : decode cX3_startsRun 18 = .ok (.iconst 1, 1) := by decide +kernel
theorem dX3_startsRun_19 : decode cX3_startsRun 19 = .ok (.isub, 1) := by decide +kernel
theorem dX3_startsRun_20 : decode cX3_startsRun 20 = .ok (.invokevirtual 38, 3) := by decide +kernel
theorem dX3_startsRun_23 : decode cX3_startsRun 23 = .ok (.if_icmp .eq 7, 3) := by decide +kernel
theorem dX3_startsRun_26 : decode cX3_startsRun 26 = .ok (.iconst 1, 1) := by decide +kernel
theorem dX3_startsRun_27 : decode cX3_startsRun 27 = .ok (.goto 4, 3) := by decide +kernel
theorem dX3_startsRun_30 : decode cX3_startsRun 30 = .ok (.iconst 0, 1) := by decide +kernel
theorem dX3_startsRun_31 : decode cX3_startsRun 31 = .ok (.ireturn, 1) := by decide +kernel
theorem dX3_countRuns_0 : decode cX3_countRuns 0 = .ok (.iconst 0, 1) := by decide +kernel
theorem dX3_countRuns_1 : decode cX3_countRuns 1 = .ok (.istore_n 2, 1) := by decide +kernel
theorem dX3_countRuns_2 : decode cX3_countRuns 2 = .ok (.iconst 0, 1) := by decide +kernel
theorem dX3_countRuns_3 : decode cX3_countRuns 3 = .ok (.istore_n 3, 1) := by decide +kernel
theorem dX3_countRuns_4 : decode cX3_countRuns 4 = .ok (.iload_n 3, 1) := by decide +kernel
theorem dX3_countRuns_5 : decode cX3_countRuns 5 = .ok (.aload_n 0, 1) := by decide +kernel
theorem dX3_countRuns_6 : decode cX3_countRuns 6 = .ok (.getfield 31, 3) := by decide +kernel
theorem dX3_countRuns_9 : decode cX3_countRuns 9 = .ok (.if_icmp .ge 21, 3) := by decide +kernel
theorem dX3_countRuns_12 : decode cX3_countRuns 12 = .ok (.aload_n 0, 1) := by decide +kernel
theorem dX3_countRuns_13 : decode cX3_countRuns 13 = .ok (.iload_n 1, 1) := by decide +kernel
theorem dX3_countRuns_14 : decode cX3_countRuns 14 = .ok (.iload_n 3, 1) := by decide +kernel
theorem dX3_countRuns_15 : decode cX3_countRuns 15 = .ok (.invokevirtual 89, 3) := by decide +kernel
theorem dX3_countRuns_18 : decode cX3_countRuns 18 = .ok (.ifCond .eq 6, 3) := by decide +kernel
theorem dX3_countRuns_21 : decode cX3_countRuns 21 = .ok (.iinc 2 1, 3) := by decide +kernel
theorem dX3_countRuns_24 : decode cX3_countRuns 24 = .ok (.iinc 3 1, 3) := by decide +kernel
theorem dX3_countRuns_27 : decode cX3_countRuns 27 = .ok (.goto (-23), 3) := by decide +kernel
theorem dX3_countRuns_30 : decode cX3_countRuns 30 = .ok (.iload_n 2, 1) := by decide +kernel
theorem dX3_countRuns_31 : decode cX3_countRuns 31 = .ok (.ireturn, 1) := by decide +kernel
theorem dX3_startOfRun_0 : decode cX3_startOfRun 0 = .ok (.iconst 0, 1) := by decide +kernel
theorem dX3_startOfRun_1 : decode cX3_startOfRun 1 = .ok (.istore_n 3, 1) := by decide +kernel
theorem dX3_startOfRun_2 : decode cX3_startOfRun 2 = .ok (.iconst 0, 1) := by decide +kernel
theorem dX3_startOfRun_3 : decode cX3_startOfRun 3 = .ok (.istore 4, 2) := by decide +kernel
theorem dX3_startOfRun_5 : decode cX3_startOfRun 5 = .ok (.iload 4, 2) := by decide +kernel
theorem dX3_startOfRun_7 : decode cX3_startOfRun 7 = .ok (.aload_n 0, 1) := by decide +kernel
theorem dX3_startOfRun_8 : decode cX3_startOfRun 8 = .ok (.getfield 31, 3) := by decide +kernel
theorem dX3_startOfRun_11 : decode cX3_startOfRun 11 = .ok (.if_icmp .ge 30, 3) := by decide +kernel
theorem dX3_startOfRun_14 : decode cX3_startOfRun 14 = .ok (.aload_n 0, 1) := by decide +kernel
theorem dX3_startOfRun_15 : decode cX3_startOfRun 15 = .ok (.iload_n 1, 1) := by decide +kernel
theorem dX3_startOfRun_16 : decode cX3_startOfRun 16 = .ok (.iload 4, 2) := by decide +kernel
theorem dX3_startOfRun_18 : decode cX3_startOfRun 18 = .ok (.invokevirtual 89, 3) := by decide +kernel
theorem dX3_startOfRun_21 : decode cX3_startOfRun 21 = .ok (.ifCond .eq 14, 3) := by decide +kernel
theorem dX3_startOfRun_24 : decode cX3_startOfRun 24 = .ok (.iload_n 3, 1) := by decide +kernel
theorem dX3_startOfRun_25 : decode cX3_startOfRun 25 = .ok (.iload_n 2, 1) := by decide +kernel
theorem dX3_startOfRun_26 : decode cX3_startOfRun 26 = .ok (.if_icmp .ne 6, 3) := by decide +kernel
theorem dX3_startOfRun_29 : decode cX3_startOfRun 29 = .ok (.iload 4, 2) := by decide +kernel
theorem dX3_startOfRun_31 : decode cX3_startOfRun 31 = .ok (.ireturn, 1) := by decide +kernel
theorem dX3_startOfRun_32 : decode cX3_startOfRun 32 = .ok (.iinc 3 1, 3) := by decide +kernel
theorem dX3_startOfRun_35 : decode cX3_startOfRun 35 = .ok (.iinc 4 1, 3) := by decide +kernel
theorem dX3_startOfRun_38 : decode cX3_startOfRun 38 = .ok (.goto (-33), 3) := by decide +kernel
theorem dX3_startOfRun_41 : decode cX3_startOfRun 41 = .ok (.iconst (-1), 1) := by decide +kernel
theorem dX3_startOfRun_42 : decode cX3_startOfRun 42 = .ok (.ireturn, 1) := by decide +kernel
theorem dX3_lengthOfRun_0 : decode cX3_lengthOfRun 0 = .ok (.iload_n 2, 1) := by decide +kernel
theorem dX3_lengthOfRun_1 : decode cX3_lengthOfRun 1 = .ok (.iconst 1, 1) := by decide +kernel
theorem dX3_lengthOfRun_2 : decode cX3_lengthOfRun 2 = .ok (.iadd, 1) := by decide +kernel
theorem dX3_lengthOfRun_3 : decode cX3_lengthOfRun 3 = .ok (.istore_n 3, 1) := by decide +kernel
theorem dX3_lengthOfRun_4 : decode cX3_lengthOfRun 4 = .ok (.iload_n 3, 1) := by decide +kernel
theorem dX3_lengthOfRun_5 : decode cX3_lengthOfRun 5 = .ok (.aload_n 0, 1) := by decide +kernel
theorem dX3_lengthOfRun_6 : decode cX3_lengthOfRun 6 = .ok (.getfield 31, 3) := by decide +kernel
theorem dX3_lengthOfRun_9 : decode cX3_lengthOfRun 9 = .ok (.if_icmp .ge 18, 3) := by decide +kernel
theorem dX3_lengthOfRun_12 : decode cX3_lengthOfRun 12 = .ok (.aload_n 0, 1) := by decide +kernel
theorem dX3_lengthOfRun_13 : decode cX3_lengthOfRun 13 = .ok (.iload_n 1, 1) := by decide +kernel
theorem dX3_lengthOfRun_14 : decode cX3_lengthOfRun 14 = .ok (.iload_n 3, 1) := by decide +kernel
theorem dX3_lengthOfRun_15 : decode cX3_lengthOfRun 15 = .ok (.invokevirtual 89, 3) := by decide +kernel
theorem dX3_lengthOfRun_18 : decode cX3_lengthOfRun 18 = .ok (.ifCond .ne 9, 3) := by decide +kernel
theorem dX3_lengthOfRun_21 : decode cX3_lengthOfRun 21 = .ok (.iinc 3 1, 3) := by decide +kernel
theorem dX3_lengthOfRun_24 : decode cX3_lengthOfRun 24 = .ok (.goto (-20), 3) := by decide +kernel
theorem dX3_lengthOfRun_27 : decode cX3_lengthOfRun 27 = .ok (.iload_n 3, 1) := by decide +kernel
theorem dX3_lengthOfRun_28 : decode cX3_lengthOfRun 28 = .ok (.iload_n 2, 1) := by decide +kernel
theorem dX3_lengthOfRun_29 : decode cX3_lengthOfRun 29 = .ok (.isub, 1) := by decide +kernel
theorem dX3_lengthOfRun_30 : decode cX3_lengthOfRun 30 = .ok (.ireturn, 1) := by decide +kernel
theorem dX4_init_0 : decode cX4_init 0 = .ok (.aload_n 0, 1) := by decide +kernel
theorem dX4_init_1 : decode cX4_init 1 = .ok (.invokespecial 1, 3) := by decide +kernel
theorem dX4_init_4 : decode cX4_init 4 = .ok (.iconst 1, 1) := by decide +kernel
theorem dX4_init_5 : decode cX4_init 5 = .ok (.bipush 16, 2) := by decide +kernel
theorem dX4_init_7 : decode cX4_init 7 = .ok (.iload_n 1, 1) := by decide +kernel
theorem dX4_init_8 : decode cX4_init 8 = .ok (.invokestatic 9, 3) := by decide +kernel
theorem dX4_init_11 : decode cX4_init 11 = .ok (.invokestatic 15, 3) := by decide +kernel
theorem dX4_init_14 : decode cX4_init 14 = .ok (.istore_n 3, 1) := by decide +kernel
theorem dX4_init_15 : decode cX4_init 15 = .ok (.iconst 1, 1) := by decide +kernel
theorem dX4_init_16 : decode cX4_init 16 = .ok (.bipush 12, 2) := by decide +kernel
theorem dX4_init_18 : decode cX4_init 18 = .ok (.iload_n 2, 1) := by decide +kernel
theorem dX4_init_19 : decode cX4_init 19 = .ok (.invokestatic 9, 3) := by decide +kernel
theorem dX4_init_22 : decode cX4_init 22 = .ok (.invokestatic 15, 3) := by decide +kernel
theorem dX4_init_25 : decode cX4_init 25 = .ok (.istore 4, 2) := by decide +kernel
theorem dX4_init_27 : decode cX4_init 27 = .ok (.aload_n 0, 1) := by decide +kernel
theorem dX4_init_28 : decode cX4_init 28 = .ok (.new 18, 3) := by decide +kernel
theorem dX4_init_31 : decode cX4_init 31 = .ok (.dup, 1) := by decide +kernel
theorem dX4_init_32 : decode cX4_init 32 = .ok (.iload_n 3, 1) := by decide +kernel
theorem dX4_init_33 : decode cX4_init 33 = .ok (.iload 4, 2) := by decide +kernel
theorem dX4_init_35 : decode cX4_init 35 = .ok (.invokespecial 20, 3) := by decide +kernel
theorem dX4_init_38 : decode cX4_init 38 = .ok (.putfield 23, 3) := by decide +kernel
theorem dX4_init_41 : decode cX4_init 41 = .ok (.aload_n 0, 1) := by decide +kernel
theorem dX4_init_42 : decode cX4_init 42 = .ok (.new 27, 3) := by decide +kernel
theorem dX4_init_45 : decode cX4_init 45 = .ok (.dup, 1) := by decide +kernel
theorem dX4_init_46 : decode cX4_init 46 = .ok (.invokespecial 29, 3) := by decide +kernel
theorem dX4_init_49 : decode cX4_init 49 = .ok (.putfield 30, 3) := by decide +kernel
theorem dX4_init_52 : decode cX4_init 52 = .ok (.aload_n 0, 1) := by decide +kernel
theorem dX4_init_53 : decode cX4_init 53 = .ok (.bipush 6, 2) := by decide +kernel
theorem dX4_init_55 : decode cX4_init 55 = .ok (.anewarray 34, 3) := by decide +kernel
theorem dX4_init_58 : decode cX4_init 58 = .ok (.putfield 36, 3) := by decide +kernel
theorem dX4_init_61 : decode cX4_init 61 = .ok (.aload_n 0, 1) := by decide +kernel
theorem dX4_init_62 : decode cX4_init 62 = .ok (.iconst 0, 1) := by decide +kernel
theorem dX4_init_63 : decode cX4_init 63 = .ok (.putfield 40, 3) := by decide +kernel
theorem dX4_init_66 : decode cX4_init 66 = .ok (.return_, 1) := by decide +kernel
theorem dX4_ink_0 : decode cX4_ink 0 = .ok (.iload_n 1, 1) := by decide +kernel
theorem dX4_ink_1 : decode cX4_ink 1 = .ok (.invokestatic 44, 3) := by decide +kernel
theorem dX4_ink_4 : decode cX4_ink 4 = .ok (.ifCond .eq 25, 3) := by decide +kernel
theorem dX4_ink_7 : decode cX4_ink 7 = .ok (.iload_n 2, 1) := by decide +kernel
theorem dX4_ink_8 : decode cX4_ink 8 = .ok (.invokestatic 44, 3) := by decide +kernel
theorem dX4_ink_11 : decode cX4_ink 11 = .ok (.ifCond .eq 18, 3) := by decide +kernel
theorem dX4_ink_14 : decode cX4_ink 14 = .ok (.iload_n 3, 1) := by decide +kernel
theorem dX4_ink_15 : decode cX4_ink 15 = .ok (.invokestatic 44, 3) := by decide +kernel
theorem dX4_ink_18 : decode cX4_ink 18 = .ok (.ifCond .eq 11, 3) := by decide +kernel
theorem dX4_ink_21 : decode cX4_ink 21 = .ok (.iload 4, 2) := by decide +kernel
theorem dX4_ink_23 : decode cX4_ink 23 = .ok (.invokestatic 44, 3) := by decide +kernel
theorem dX4_ink_26 : decode cX4_ink 26 = .ok (.ifCond .ne 13, 3) := by decide +kernel
theorem dX4_ink_29 : decode cX4_ink 29 = .ok (.new 48, 3) := by decide +kernel
theorem dX4_ink_32 : decode cX4_ink 32 = .ok (.dup, 1) := by decide +kernel
theorem dX4_ink_33 : decode cX4_ink 33 = .ok (.ldc 50, 2) := by decide +kernel
theorem dX4_ink_35 : decode cX4_ink 35 = .ok (.invokespecial 52, 3) := by decide +kernel
theorem dX4_ink_38 : decode cX4_ink 38 = .ok (.athrow, 1) := by decide +kernel
theorem dX4_ink_39 : decode cX4_ink 39 = .ok (.aload_n 0, 1) := by decide +kernel
theorem dX4_ink_40 : decode cX4_ink 40 = .ok (.getfield 23, 3) := by decide +kernel
theorem dX4_ink_43 : decode cX4_ink 43 = .ok (.getfield 55, 3) := by decide +kernel
theorem dX4_ink_46 : decode cX4_ink 46 = .ok (.getfield 59, 3) := by decide +kernel
theorem dX4_ink_49 : decode cX4_ink 49 = .ok (.bipush 8, 2) := by decide +kernel
theorem dX4_ink_51 : decode cX4_ink 51 = .ok (.if_icmp .lt 13, 3) := by decide +kernel
theorem dX4_ink_54 : decode cX4_ink 54 = .ok (.new 64, 3) := by decide +kernel
theorem dX4_ink_57 : decode cX4_ink 57 = .ok (.dup, 1) := by decide +kernel
theorem dX4_ink_58 : decode cX4_ink 58 = .ok (.ldc 66, 2) := by decide +kernel
theorem dX4_ink_60 : decode cX4_ink 60 = .ok (.invokespecial 68, 3) := by decide +kernel
theorem dX4_ink_63 : decode cX4_ink 63 = .ok (.athrow, 1) := by decide +kernel
theorem dX4_ink_64 : decode cX4_ink 64 = .ok (.aload_n 0, 1) := by decide +kernel
theorem dX4_ink_65 : decode cX4_ink 65 = .ok (.getfield 23, 3) := by decide +kernel
theorem dX4_ink_68 : decode cX4_ink 68 = .ok (.getfield 55, 3) := by decide +kernel
theorem dX4_ink_71 : decode cX4_ink 71 = .ok (.iload_n 1, 1) := by decide +kernel
theorem dX4_ink_72 : decode cX4_ink 72 = .ok (.iload_n 2, 1) := by decide +kernel
theorem dX4_ink_73 : decode cX4_ink 73 = .ok (.iload_n 3, 1) := by decide +kernel
theorem dX4_ink_74 : decode cX4_ink 74 = .ok (.iload 4, 2) := by decide +kernel
theorem dX4_ink_76 : decode cX4_ink 76 = .ok (.invokevirtual 69, 3) := by decide +kernel
theorem dX4_ink_79 : decode cX4_ink 79 = .ok (.ireturn, 1) := by decide +kernel
theorem dX4_colour_0 : decode cX4_colour 0 = .ok (.iload_n 2, 1) := by decide +kernel
theorem dX4_colour_1 : decode cX4_colour 1 = .ok (.iconst (-1), 1) := by decide +kernel
theorem dX4_colour_2 : decode cX4_colour 2 = .ok (.if_icmp .lt 10, 3) := by decide +kernel
theorem dX4_colour_5 : decode cX4_colour 5 = .ok (.iload_n 2, 1) := by decide +kernel
theorem dX4_colour_6 : decode cX4_colour 6 = .ok (.sipush 255, 3) := by decide +kernel
theorem dX4_colour_9 : decode cX4_colour 9 = .ok (.if_icmp .le 13, 3) := by decide +kernel
theorem dX4_colour_12 : decode cX4_colour 12 = .ok (.new 48, 3) := by decide +kernel
theorem dX4_colour_15 : decode cX4_colour 15 = .ok (.dup, 1) := by decide +kernel
theorem dX4_colour_16 : decode cX4_colour 16 = .ok (.ldc 73, 2) := by decide +kernel
theorem dX4_colour_18 : decode cX4_colour 18 = .ok (.invokespecial 52, 3) := by decide +kernel
theorem dX4_colour_21 : decode cX4_colour 21 = .ok (.athrow, 1) := by decide +kernel
theorem dX4_colour_22 : decode cX4_colour 22 = .ok (.aload_n 0, 1) := by decide +kernel
theorem dX4_colour_23 : decode cX4_colour 23 = .ok (.iload_n 1, 1) := by decide +kernel
theorem dX4_colour_24 : decode cX4_colour 24 = .ok (.invokevirtual 75, 3) := by decide +kernel
theorem dX4_colour_27 : decode cX4_colour 27 = .ok (.aload_n 0, 1) := by decide +kernel
theorem dX4_colour_28 : decode cX4_colour 28 = .ok (.getfield 23, 3) := by decide +kernel
theorem dX4_colour_31 : decode cX4_colour 31 = .ok (.getfield 55, 3) := by decide +kernel
theorem dX4_colour_34 : decode cX4_colour 34 = .ok (.getfield 79, 3) := by decide +kernel
theorem dX4_colour_37 : decode cX4_colour 37 = .ok (.iload_n 1, 1) := by decide +kernel
theorem dX4_colour_38 : decode cX4_colour 38 = .ok (.iload_n 2, 1) := by decide +kernel
theorem dX4_colour_39 : decode cX4_colour 39 = .ok (.iastore, 1) := by decide +kernel
theorem dX4_colour_40 : decode cX4_colour 40 = .ok (.return_, 1) := by decide +kernel
theorem dX4_paint_0 : decode cX4_paint 0 = .ok (.iconst 0, 1) := by decide +kernel
theorem dX4_paint_1 : decode cX4_paint 1 = .ok (.iload_n 1, 1) := by decide +kernel
theorem dX4_paint_2 : decode cX4_paint 2 = .ok (.invokestatic 15, 3) := by decide +kernel
theorem dX4_paint_5 : decode cX4_paint 5 = .ok (.istore 6, 2) := by decide +kernel
theorem dX4_paint_7 : decode cX4_paint 7 = .ok (.aload_n 0, 1) := by decide +kernel
theorem dX4_paint_8 : decode cX4_paint 8 = .ok (.getfield 23, 3) := by decide +kernel
theorem dX4_paint_11 : decode cX4_paint 11 = .ok (.getfield 83, 3) := by decide +kernel
theorem dX4_paint_14 : decode cX4_paint 14 = .ok (.iconst 1, 1) := by decide +kernel
theorem dX4_paint_15 : decode cX4_paint 15 = .ok (.isub, 1) := by decide +kernel
theorem dX4_paint_16 : decode cX4_paint 16 = .ok (.iload_n 3, 1) := by decide +kernel
theorem dX4_paint_17 : decode cX4_paint 17 = .ok (.invokestatic 9, 3) := by decide +kernel
theorem dX4_paint_20 : decode cX4_paint 20 = .ok (.istore 7, 2) := by decide +kernel
theorem dX4_paint_22 : decode cX4_paint 22 = .ok (.iconst 0, 1) := by decide +kernel
theorem dX4_paint_23 : decode cX4_paint 23 = .ok (.iload_n 2, 1) := by decide +kernel
theorem dX4_paint_24 : decode cX4_paint 24 = .ok (.invokestatic 15, 3) := by decide +kernel
theorem dX4_paint_27 : decode cX4_paint 27 = .ok (.istore 8, 2) := by decide +kernel
theorem dX4_paint_29 : decode cX4_paint 29 = .ok (.aload_n 0, 1) := by decide +kernel
theorem dX4_paint_30 : decode cX4_paint 30 = .ok (.getfield 23, 3) := by decide +kernel
theorem dX4_paint_33 : decode cX4_paint 33 = .ok (.getfield 86, 3) := by decide +kernel
theorem dX4_paint_36 : decode cX4_paint 36 = .ok (.iconst 1, 1) := by decide +kernel
theorem dX4_paint_37 : decode cX4_paint 37 = .ok (.isub, 1) := by decide +kernel
theorem dX4_paint_38 : decode cX4_paint 38 = .ok (.iload 4, 2) := by decide +kernel
theorem dX4_paint_40 : decode cX4_paint 40 = .ok (.invokestatic 9, 3) := by decide +kernel
theorem dX4_paint_43 : decode cX4_paint 43 = .ok (.istore 9, 2) := by decide +kernel
theorem dX4_paint_45 : decode cX4_paint 45 = .ok (.iconst 0, 1) := by decide +kernel
theorem dX4_paint_46 : decode cX4_paint 46 = .ok (.istore 10, 2) := by decide +kernel
theorem dX4_paint_48 : decode cX4_paint 48 = .ok (.iload 8, 2) := by decide +kernel
theorem dX4_paint_50 : decode cX4_paint 50 = .ok (.istore 11, 2) := by decide +kernel
theorem dX4_paint_52 : decode cX4_paint 52 = .ok (.iload 11, 2) := by decide +kernel
theorem dX4_paint_54 : decode cX4_paint 54 = .ok (.iload 9, 2) := by decide +kernel
theorem dX4_paint_56 : decode cX4_paint 56 = .ok (.if_icmp .gt 51, 3) := by decide +kernel
theorem dX4_paint_59 : decode cX4_paint 59 = .ok (.iload 6, 2) := by decide +kernel
theorem dX4_paint_61 : decode cX4_paint 61 = .ok (.istore 12, 2) := by decide +kernel
theorem dX4_paint_63 : decode cX4_paint 63 = .ok (.iload 12, 2) := by decide +kernel
theorem dX4_paint_65 : decode cX4_paint 65 = .ok (.iload 7, 2) := by decide +kernel
theorem dX4_paint_67 : decode cX4_paint 67 = .ok (.if_icmp .gt 34, 3) := by decide +kernel
theorem dX4_paint_70 : decode cX4_paint 70 = .ok (.aload_n 0, 1) := by decide +kernel
theorem dX4_paint_71 : decode cX4_paint 71 = .ok (.getfield 23, 3) := by decide +kernel
theorem dX4_paint_74 : decode cX4_paint 74 = .ok (.iload 12, 2) := by decide +kernel
theorem dX4_paint_76 : decode cX4_paint 76 = .ok (.aload_n 0, 1) := by decide +kernel
theorem dX4_paint_77 : decode cX4_paint 77 = .ok (.getfield 23, 3) := by decide +kernel
theorem dX4_paint_80 : decode cX4_paint 80 = .ok (.getfield 83, 3) := by decide +kernel
theorem dX4_paint_83 : decode cX4_paint 83 = .ok (.iload 11, 2) := by decide +kernel
theorem dX4_paint_85 : decode cX4_paint 85 = .ok (.imul, 1) := by decide +kernel
theorem dX4_paint_86 : decode cX4_paint 86 = .ok (.iadd, 1) := by decide +kernel
theorem dX4_paint_87 : decode cX4_paint 87 = .ok (.iload 5, 2) := by decide +kernel
theorem dX4_paint_89 : decode cX4_paint 89 = .ok (.invokevirtual 89, 3) := by decide +kernel
theorem dX4_paint_92 : decode cX4_paint 92 = .ok (.iinc 10 1, 3) := by decide +kernel
theorem dX4_paint_95 : decode cX4_paint 95 = .ok (.iinc 12 1, 3) := by decide +kernel
theorem dX4_paint_98 : decode cX4_paint 98 = .ok (.goto (-35), 3) := by decide +kernel
theorem dX4_paint_101 : decode cX4_paint 101 = .ok (.iinc 11 1, 3) := by decide +kernel
theorem dX4_paint_104 : decode cX4_paint 104 = .ok (.goto (-52), 3) := by decide +kernel
theorem dX4_paint_107 : decode cX4_paint 107 = .ok (.iload 10, 2) := by decide +kernel
theorem dX4_paint_109 : decode cX4_paint 109 = .ok (.ireturn, 1) := by decide +kernel
theorem dX4_limit_0 : decode cX4_limit 0 = .ok (.iload_n 1, 1) := by decide +kernel
theorem dX4_limit_1 : decode cX4_limit 1 = .ok (.ifCond .lt 10, 3) := by decide +kernel
theorem dX4_limit_4 : decode cX4_limit 4 = .ok (.iload_n 1, 1) := by decide +kernel
theorem dX4_limit_5 : decode cX4_limit 5 = .ok (.sipush 2040, 3) := by decide +kernel
theorem dX4_limit_8 : decode cX4_limit 8 = .ok (.if_icmp .le 13, 3) := by decide +kernel
theorem dX4_limit_11 : decode cX4_limit 11 = .ok (.new 48, 3) := by decide +kernel
theorem dX4_limit_14 : decode cX4_limit 14 = .ok (.dup, 1) := by decide +kernel
theorem dX4_limit_15 : decode cX4_limit 15 = .ok (.ldc 93, 2) := by decide +kernel
theorem dX4_limit_17 : decode cX4_limit 17 = .ok (.invokespecial 52, 3) := by decide +kernel
theorem dX4_limit_20 : decode cX4_limit 20 = .ok (.athrow, 1) := by decide +kernel
theorem dX4_limit_21 : decode cX4_limit 21 = .ok (.aload_n 0, 1) := by decide +kernel
theorem dX4_limit_22 : decode cX4_limit 22 = .ok (.getfield 23, 3) := by decide +kernel
theorem dX4_limit_25 : decode cX4_limit 25 = .ok (.getfield 95, 3) := by decide +kernel
theorem dX4_limit_28 : decode cX4_limit 28 = .ok (.istore_n 2, 1) := by decide +kernel
theorem dX4_limit_29 : decode cX4_limit 29 = .ok (.aload_n 0, 1) := by decide +kernel
theorem dX4_limit_30 : decode cX4_limit 30 = .ok (.getfield 23, 3) := by decide +kernel
theorem dX4_limit_33 : decode cX4_limit 33 = .ok (.iload_n 1, 1) := by decide +kernel
theorem dX4_limit_34 : decode cX4_limit 34 = .ok (.putfield 95, 3) := by decide +kernel
theorem dX4_limit_37 : decode cX4_limit 37 = .ok (.iload_n 2, 1) := by decide +kernel
theorem dX4_limit_38 : decode cX4_limit 38 = .ok (.ireturn, 1) := by decide +kernel
theorem dX4_plate_0 : decode cX4_plate 0 = .ok (.iload 4, 2) := by decide +kernel
theorem dX4_plate_2 : decode cX4_plate 2 = .ok (.ifCond .lt 9, 3) := by decide +kernel
theorem dX4_plate_5 : decode cX4_plate 5 = .ok (.iload 4, 2) := by decide +kernel
theorem dX4_plate_7 : decode cX4_plate 7 = .ok (.iconst 3, 1) := by decide +kernel
theorem dX4_plate_8 : decode cX4_plate 8 = .ok (.if_icmp .le 13, 3) := by decide +kernel
theorem dX4_plate_11 : decode cX4_plate 11 = .ok (.new 48, 3) := by decide +kernel
theorem dX4_plate_14 : decode cX4_plate 14 = .ok (.dup, 1) := by decide +kernel
theorem dX4_plate_15 : decode cX4_plate 15 = .ok (.ldc 98, 2) := by decide +kernel
theorem dX4_plate_17 : decode cX4_plate 17 = .ok (.invokespecial 52, 3) := by decide +kernel
theorem dX4_plate_20 : decode cX4_plate 20 = .ok (.athrow, 1) := by decide +kernel
theorem dX4_plate_21 : decode cX4_plate 21 = .ok (.aload_n 0, 1) := by decide +kernel
theorem dX4_plate_22 : decode cX4_plate 22 = .ok (.iload_n 1, 1) := by decide +kernel
theorem dX4_plate_23 : decode cX4_plate 23 = .ok (.invokevirtual 75, 3) := by decide +kernel
theorem dX4_plate_26 : decode cX4_plate 26 = .ok (.aload_n 0, 1) := by decide +kernel
theorem dX4_plate_27 : decode cX4_plate 27 = .ok (.iload_n 2, 1) := by decide +kernel
theorem dX4_plate_28 : decode cX4_plate 28 = .ok (.iload_n 3, 1) := by decide +kernel
theorem dX4_plate_29 : decode cX4_plate 29 = .ok (.invokevirtual 100, 3) := by decide +kernel
theorem dX4_plate_32 : decode cX4_plate 32 = .ok (.iload 4, 2) := by decide +kernel
theorem dX4_plate_34 : decode cX4_plate 34 = .ok (.iconst 2, 1) := by decide +kernel
theorem dX4_plate_35 : decode cX4_plate 35 = .ok (.irem, 1) := by decide +kernel
theorem dX4_plate_36 : decode cX4_plate 36 = .ok (.iconst 1, 1) := by decide +kernel
theorem dX4_plate_37 : decode cX4_plate 37 = .ok (.if_icmp .ne 15, 3) := by decide +kernel
theorem dX4_plate_40 : decode cX4_plate 40 = .ok (.aload_n 0, 1) := by decide +kernel
theorem dX4_plate_41 : decode cX4_plate 41 = .ok (.getfield 23, 3) := by decide +kernel
theorem dX4_plate_44 : decode cX4_plate 44 = .ok (.iload_n 2, 1) := by decide +kernel
theorem dX4_plate_45 : decode cX4_plate 45 = .ok (.iload_n 3, 1) := by decide +kernel
theorem dX4_plate_46 : decode cX4_plate 46 = .ok (.invokevirtual 103, 3) := by decide +kernel
theorem dX4_plate_49 : decode cX4_plate 49 = .ok (.goto 4, 3) := by decide +kernel
theorem dX4_plate_52 : decode cX4_plate 52 = .ok (.iconst (-1), 1) := by decide +kernel
theorem dX4_plate_53 : decode cX4_plate 53 = .ok (.istore 5, 2) := by decide +kernel
theorem dX4_plate_55 : decode cX4_plate 55 = .ok (.aload_n 0, 1) := by decide +kernel
theorem dX4_plate_56 : decode cX4_plate 56 = .ok (.getfield 23, 3) := by decide +kernel
theorem dX4_plate_59 : decode cX4_plate 59 = .ok (.iload_n 1, 1) := by decide +kernel
theorem dX4_plate_60 : decode cX4_plate 60 = .ok (.iload_n 2, 1) := by decide +kernel
theorem dX4_plate_61 : decode cX4_plate 61 = .ok (.aload_n 0, 1) := by decide +kernel
theorem dX4_plate_62 : decode cX4_plate 62 = .ok (.getfield 23, 3) := by decide +kernel
theorem dX4_plate_65 : decode cX4_plate 65 = .ok (.getfield 83, 3) := by decide +kernel
theorem dX4_plate_68 : decode cX4_plate 68 = .ok (.iload_n 3, 1) := by decide +kernel
theorem dX4_plate_69 : decode cX4_plate 69 = .ok (.imul, 1) := by decide +kernel
theorem dX4_plate_70 : decode cX4_plate 70 = .ok (.iadd, 1) := by decide +kernel
theorem dX4_plate_71 : decode cX4_plate 71 = .ok (.iload 5, 2) := by decide +kernel
theorem dX4_plate_73 : decode cX4_plate 73 = .ok (.invokevirtual 106, 3) := by decide +kernel
theorem dX4_plate_76 : decode cX4_plate 76 = .ok (.istore 6, 2) := by decide +kernel
theorem dX4_plate_78 : decode cX4_plate 78 = .ok (.iload 4, 2) := by decide +kernel
theorem dX4_plate_80 : decode cX4_plate 80 = .ok (.iconst 2, 1) := by decide +kernel
theorem dX4_plate_81 : decode cX4_plate 81 = .ok (.if_icmp .lt 15, 3) := by decide +kernel
theorem dX4_plate_84 : decode cX4_plate 84 = .ok (.aload_n 0, 1) := by decide +kernel
theorem dX4_plate_85 : decode cX4_plate 85 = .ok (.getfield 30, 3) := by decide +kernel
theorem dX4_plate_88 : decode cX4_plate 88 = .ok (.iload 6, 2) := by decide +kernel
theorem dX4_plate_90 : decode cX4_plate 90 = .ok (.invokevirtual 110, 3) := by decide +kernel
theorem dX4_plate_93 : decode cX4_plate 93 = .ok (.goto 5, 3) := by decide +kernel
theorem dX4_plate_96 : decode cX4_plate 96 = .ok (.iload 6, 2) := by decide +kernel
theorem dX4_plate_98 : decode cX4_plate 98 = .ok (.ireturn, 1) := by decide +kernel
theorem dX4_seen_0 : decode cX4_seen 0 = .ok (.aload_n 0, 1) := by decide +kernel
theorem dX4_seen_1 : decode cX4_seen 1 = .ok (.iload_n 1, 1) := by decide +kernel
theorem dX4_seen_2 : decode cX4_seen 2 = .ok (.iload_n 2, 1) := by decide +kernel
theorem dX4_seen_3 : decode cX4_seen 3 = .ok (.invokevirtual 100, 3) := by decide +kernel
theorem dX4_seen_6 : decode cX4_seen 6 = .ok (.iload_n 3, 1) := by decide +kernel
theorem dX4_seen_7 : decode cX4_seen 7 = .ok (.ifCond .lt 8, 3) := by decide +kernel
theorem dX4_seen_10 : decode cX4_seen 10 = .ok (.iload_n 3, 1) := by decide +kernel
theorem dX4_seen_11 : decode cX4_seen 11 = .ok (.iconst 3, 1) := by decide +kernel
theorem dX4_seen_12 : decode cX4_seen 12 = .ok (.if_icmp .lt 13, 3) := by decide +kernel
theorem dX4_seen_15 : decode cX4_seen 15 = .ok (.new 114, 3) := by decide +kernel
theorem dX4_seen_18 : decode cX4_seen 18 = .ok (.dup, 1) := by decide +kernel
theorem dX4_seen_19 : decode cX4_seen 19 = .ok (.ldc 116, 2) := by decide +kernel
theorem dX4_seen_21 : decode cX4_seen 21 = .ok (.invokespecial 118, 3) := by decide +kernel
theorem dX4_seen_24 : decode cX4_seen 24 = .ok (.athrow, 1) := by decide +kernel
theorem dX4_seen_25 : decode cX4_seen 25 = .ok (.iload 4, 2) := by decide +kernel
theorem dX4_seen_27 : decode cX4_seen 27 = .ok (.ifCond .eq 15, 3) := by decide +kernel
theorem dX4_seen_30 : decode cX4_seen 30 = .ok (.aload_n 0, 1) := by decide +kernel
theorem dX4_seen_31 : decode cX4_seen 31 = .ok (.getfield 23, 3) := by decide +kernel
theorem dX4_seen_34 : decode cX4_seen 34 = .ok (.iload_n 1, 1) := by decide +kernel
theorem dX4_seen_35 : decode cX4_seen 35 = .ok (.iload_n 2, 1) := by decide +kernel
theorem dX4_seen_36 : decode cX4_seen 36 = .ok (.invokevirtual 103, 3) := by decide +kernel
theorem dX4_seen_39 : decode cX4_seen 39 = .ok (.goto 4, 3) := by decide +kernel
theorem dX4_seen_42 : decode cX4_seen 42 = .ok (.iconst (-1), 1) := by decide +kernel
theorem dX4_seen_43 : decode cX4_seen 43 = .ok (.istore 5, 2) := by decide +kernel
theorem dX4_seen_45 : decode cX4_seen 45 = .ok (.aload_n 0, 1) := by decide +kernel
theorem dX4_seen_46 : decode cX4_seen 46 = .ok (.getfield 23, 3) := by decide +kernel
theorem dX4_seen_49 : decode cX4_seen 49 = .ok (.iload_n 3, 1) := by decide +kernel
theorem dX4_seen_50 : decode cX4_seen 50 = .ok (.iload_n 1, 1) := by decide +kernel
theorem dX4_seen_51 : decode cX4_seen 51 = .ok (.aload_n 0, 1) := by decide +kernel
theorem dX4_seen_52 : decode cX4_seen 52 = .ok (.getfield 23, 3) := by decide +kernel
theorem dX4_seen_55 : decode cX4_seen 55 = .ok (.getfield 83, 3) := by decide +kernel
theorem dX4_seen_58 : decode cX4_seen 58 = .ok (.iload_n 2, 1) := by decide +kernel
theorem dX4_seen_59 : decode cX4_seen 59 = .ok (.imul, 1) := by decide +kernel
theorem dX4_seen_60 : decode cX4_seen 60 = .ok (.iadd, 1) := by decide +kernel
theorem dX4_seen_61 : decode cX4_seen 61 = .ok (.iload 5, 2) := by decide +kernel
theorem dX4_seen_63 : decode cX4_seen 63 = .ok (.invokevirtual 119, 3) := by decide +kernel
theorem dX4_seen_66 : decode cX4_seen 66 = .ok (.ireturn, 1) := by decide +kernel
theorem dX4_lender_0 : decode cX4_lender 0 = .ok (.aload_n 0, 1) := by decide +kernel
theorem dX4_lender_1 : decode cX4_lender 1 = .ok (.iload_n 1, 1) := by decide +kernel
theorem dX4_lender_2 : decode cX4_lender 2 = .ok (.iload_n 2, 1) := by decide +kernel
theorem dX4_lender_3 : decode cX4_lender 3 = .ok (.invokevirtual 100, 3) := by decide +kernel
theorem dX4_lender_6 : decode cX4_lender 6 = .ok (.aload_n 0, 1) := by decide +kernel
theorem dX4_lender_7 : decode cX4_lender 7 = .ok (.getfield 23, 3) := by decide +kernel
theorem dX4_lender_10 : decode cX4_lender 10 = .ok (.iload_n 1, 1) := by decide +kernel
theorem dX4_lender_11 : decode cX4_lender 11 = .ok (.iload_n 2, 1) := by decide +kernel
theorem dX4_lender_12 : decode cX4_lender 12 = .ok (.invokevirtual 103, 3) := by decide +kernel
theorem dX4_lender_15 : decode cX4_lender 15 = .ok (.ireturn, 1) := by decide +kernel
theorem dX4_width_0 : decode cX4_width 0 = .ok (.iload_n 1, 1) := by decide +kernel
theorem dX4_width_1 : decode cX4_width 1 = .ok (.ifCond .lt 8, 3) := by decide +kernel
theorem dX4_width_4 : decode cX4_width 4 = .ok (.iload_n 1, 1) := by decide +kernel
theorem dX4_width_5 : decode cX4_width 5 = .ok (.iconst 3, 1) := by decide +kernel
theorem dX4_width_6 : decode cX4_width 6 = .ok (.if_icmp .le 13, 3) := by decide +kernel
theorem dX4_width_9 : decode cX4_width 9 = .ok (.new 48, 3) := by decide +kernel
theorem dX4_width_12 : decode cX4_width 12 = .ok (.dup, 1) := by decide +kernel
theorem dX4_width_13 : decode cX4_width 13 = .ok (.ldc 122, 2) := by decide +kernel
theorem dX4_width_15 : decode cX4_width 15 = .ok (.invokespecial 52, 3) := by decide +kernel
theorem dX4_width_18 : decode cX4_width 18 = .ok (.athrow, 1) := by decide +kernel
theorem dX4_width_19 : decode cX4_width 19 = .ok (.aload_n 0, 1) := by decide +kernel
theorem dX4_width_20 : decode cX4_width 20 = .ok (.getfield 23, 3) := by decide +kernel
theorem dX4_width_23 : decode cX4_width 23 = .ok (.getfield 124, 3) := by decide +kernel
theorem dX4_width_26 : decode cX4_width 26 = .ok (.istore_n 2, 1) := by decide +kernel
theorem dX4_width_27 : decode cX4_width 27 = .ok (.aload_n 0, 1) := by decide +kernel
theorem dX4_width_28 : decode cX4_width 28 = .ok (.getfield 23, 3) := by decide +kernel
theorem dX4_width_31 : decode cX4_width 31 = .ok (.iload_n 1, 1) := by decide +kernel
theorem dX4_width_32 : decode cX4_width 32 = .ok (.putfield 124, 3) := by decide +kernel
theorem dX4_width_35 : decode cX4_width 35 = .ok (.iload_n 2, 1) := by decide +kernel
theorem dX4_width_36 : decode cX4_width 36 = .ok (.ireturn, 1) := by decide +kernel
theorem dX4_gain_0 : decode cX4_gain 0 = .ok (.iload_n 1, 1) := by decide +kernel
theorem dX4_gain_1 : decode cX4_gain 1 = .ok (.invokestatic 44, 3) := by decide +kernel
theorem dX4_gain_4 : decode cX4_gain 4 = .ok (.ifCond .eq 10, 3) := by decide +kernel
theorem dX4_gain_7 : decode cX4_gain 7 = .ok (.iload_n 2, 1) := by decide +kernel
theorem dX4_gain_8 : decode cX4_gain 8 = .ok (.invokestatic 44, 3) := by decide +kernel
theorem dX4_gain_11 : decode cX4_gain 11 = .ok (.ifCond .ne 13, 3) := by decide +kernel
theorem dX4_gain_14 : decode cX4_gain 14 = .ok (.new 48, 3) := by decide +kernel
theorem dX4_gain_17 : decode cX4_gain 17 = .ok (.dup, 1) := by decide +kernel
theorem dX4_gain_18 : decode cX4_gain 18 = .ok (.ldc 127, 2) := by decide +kernel
theorem dX4_gain_20 : decode cX4_gain 20 = .ok (.invokespecial 52, 3) := by decide +kernel
theorem dX4_gain_23 : decode cX4_gain 23 = .ok (.athrow, 1) := by decide +kernel
theorem dX4_gain_24 : decode cX4_gain 24 = .ok (.aload_n 0, 1) := by decide +kernel
theorem dX4_gain_25 : decode cX4_gain 25 = .ok (.getfield 30, 3) := by decide +kernel
theorem dX4_gain_28 : decode cX4_gain 28 = .ok (.iload_n 1, 1) := by decide +kernel
theorem dX4_gain_29 : decode cX4_gain 29 = .ok (.invokevirtual 129, 3) := by decide +kernel
theorem dX4_gain_32 : decode cX4_gain 32 = .ok (.ifCond .ne 13, 3) := by decide +kernel
theorem dX4_gain_35 : decode cX4_gain 35 = .ok (.new 64, 3) := by decide +kernel
theorem dX4_gain_38 : decode cX4_gain 38 = .ok (.dup, 1) := by decide +kernel
theorem dX4_gain_39 : decode cX4_gain 39 = .ok (.ldc 132, 2) := by decide +kernel
theorem dX4_gain_41 : decode cX4_gain 41 = .ok (.invokespecial 68, 3) := by decide +kernel
theorem dX4_gain_44 : decode cX4_gain 44 = .ok (.athrow, 1) := by decide +kernel
theorem dX4_gain_45 : decode cX4_gain 45 = .ok (.aload_n 0, 1) := by decide +kernel
theorem dX4_gain_46 : decode cX4_gain 46 = .ok (.getfield 30, 3) := by decide +kernel
theorem dX4_gain_49 : decode cX4_gain 49 = .ok (.iload_n 1, 1) := by decide +kernel
theorem dX4_gain_50 : decode cX4_gain 50 = .ok (.iload_n 2, 1) := by decide +kernel
theorem dX4_gain_51 : decode cX4_gain 51 = .ok (.invokevirtual 134, 3) := by decide +kernel
theorem dX4_gain_54 : decode cX4_gain 54 = .ok (.return_, 1) := by decide +kernel
theorem dX4_cell_0 : decode cX4_cell 0 = .ok (.iload_n 1, 1) := by decide +kernel
theorem dX4_cell_1 : decode cX4_cell 1 = .ok (.ifCond .lt 21, 3) := by decide +kernel
theorem dX4_cell_4 : decode cX4_cell 4 = .ok (.iload_n 1, 1) := by decide +kernel
theorem dX4_cell_5 : decode cX4_cell 5 = .ok (.bipush 12, 2) := by decide +kernel
theorem dX4_cell_7 : decode cX4_cell 7 = .ok (.if_icmp .gt 15, 3) := by decide +kernel
theorem dX4_cell_10 : decode cX4_cell 10 = .ok (.iload_n 2, 1) := by decide +kernel
theorem dX4_cell_11 : decode cX4_cell 11 = .ok (.bipush (-12), 2) := by decide +kernel
theorem dX4_cell_13 : decode cX4_cell 13 = .ok (.if_icmp .lt 9, 3) := by decide +kernel
theorem dX4_cell_16 : decode cX4_cell 16 = .ok (.iload_n 2, 1) := by decide +kernel
theorem dX4_cell_17 : decode cX4_cell 17 = .ok (.bipush 12, 2) := by decide +kernel
theorem dX4_cell_19 : decode cX4_cell 19 = .ok (.if_icmp .le 13, 3) := by decide +kernel
theorem dX4_cell_22 : decode cX4_cell 22 = .ok (.new 48, 3) := by decide +kernel
theorem dX4_cell_25 : decode cX4_cell 25 = .ok (.dup, 1) := by decide +kernel
theorem dX4_cell_26 : decode cX4_cell 26 = .ok (.ldc 137, 2) := by decide +kernel
theorem dX4_cell_28 : decode cX4_cell 28 = .ok (.invokespecial 52, 3) := by decide +kernel
theorem dX4_cell_31 : decode cX4_cell 31 = .ok (.athrow, 1) := by decide +kernel
theorem dX4_cell_32 : decode cX4_cell 32 = .ok (.iload_n 1, 1) := by decide +kernel
theorem dX4_cell_33 : decode cX4_cell 33 = .ok (.ifCond .ne 17, 3) := by decide +kernel
theorem dX4_cell_36 : decode cX4_cell 36 = .ok (.iload_n 2, 1) := by decide +kernel
theorem dX4_cell_37 : decode cX4_cell 37 = .ok (.ifCond .ne 13, 3) := by decide +kernel
theorem dX4_cell_40 : decode cX4_cell 40 = .ok (.new 139, 3) := by decide +kernel
theorem dX4_cell_43 : decode cX4_cell 43 = .ok (.dup, 1) := by decide +kernel
theorem dX4_cell_44 : decode cX4_cell 44 = .ok (.ldc 141, 2) := by decide +kernel
theorem dX4_cell_46 : decode cX4_cell 46 = .ok (.invokespecial 143, 3) := by decide +kernel
theorem dX4_cell_49 : decode cX4_cell 49 = .ok (.athrow, 1) := by decide +kernel
theorem dX4_cell_50 : decode cX4_cell 50 = .ok (.aload_n 0, 1) := by decide +kernel
theorem dX4_cell_51 : decode cX4_cell 51 = .ok (.getfield 40, 3) := by decide +kernel
theorem dX4_cell_54 : decode cX4_cell 54 = .ok (.bipush 6, 2) := by decide +kernel
theorem dX4_cell_56 : decode cX4_cell 56 = .ok (.if_icmp .lt 13, 3) := by decide +kernel
theorem dX4_cell_59 : decode cX4_cell 59 = .ok (.new 64, 3) := by decide +kernel
theorem dX4_cell_62 : decode cX4_cell 62 = .ok (.dup, 1) := by decide +kernel
theorem dX4_cell_63 : decode cX4_cell 63 = .ok (.ldc 144, 2) := by decide +kernel
theorem dX4_cell_65 : decode cX4_cell 65 = .ok (.invokespecial 68, 3) := by decide +kernel
theorem dX4_cell_68 : decode cX4_cell 68 = .ok (.athrow, 1) := by decide +kernel
theorem dX4_cell_69 : decode cX4_cell 69 = .ok (.aload_n 0, 1) := by decide +kernel
theorem dX4_cell_70 : decode cX4_cell 70 = .ok (.getfield 36, 3) := by decide +kernel
theorem dX4_cell_73 : decode cX4_cell 73 = .ok (.aload_n 0, 1) := by decide +kernel
theorem dX4_cell_74 : decode cX4_cell 74 = .ok (.getfield 40, 3) := by decide +kernel
theorem dX4_cell_77 : decode cX4_cell 77 = .ok (.new 34, 3) := by decide +kernel
theorem dX4_cell_80 : decode cX4_cell 80 = .ok (.dup, 1) := by decide +kernel
theorem dX4_cell_81 : decode cX4_cell 81 = .ok (.iload_n 1, 1) := by decide +kernel
theorem dX4_cell_82 : decode cX4_cell 82 = .ok (.iload_n 2, 1) := by decide +kernel
theorem dX4_cell_83 : decode cX4_cell 83 = .ok (.invokespecial 146, 3) := by decide +kernel
theorem dX4_cell_86 : decode cX4_cell 86 = .ok (.aastore, 1) := by decide +kernel
theorem dX4_cell_87 : decode cX4_cell 87 = .ok (.aload_n 0, 1) := by decide +kernel
theorem dX4_cell_88 : decode cX4_cell 88 = .ok (.dup, 1) := by decide +kernel
theorem dX4_cell_89 : decode cX4_cell 89 = .ok (.getfield 40, 3) := by decide +kernel
theorem dX4_cell_92 : decode cX4_cell 92 = .ok (.iconst 1, 1) := by decide +kernel
theorem dX4_cell_93 : decode cX4_cell 93 = .ok (.iadd, 1) := by decide +kernel
theorem dX4_cell_94 : decode cX4_cell 94 = .ok (.putfield 40, 3) := by decide +kernel
theorem dX4_cell_97 : decode cX4_cell 97 = .ok (.aload_n 0, 1) := by decide +kernel
theorem dX4_cell_98 : decode cX4_cell 98 = .ok (.getfield 40, 3) := by decide +kernel
theorem dX4_cell_101 : decode cX4_cell 101 = .ok (.iconst 1, 1) := by decide +kernel
theorem dX4_cell_102 : decode cX4_cell 102 = .ok (.isub, 1) := by decide +kernel
theorem dX4_cell_103 : decode cX4_cell 103 = .ok (.ireturn, 1) := by decide +kernel
theorem dX4_rank_0 : decode cX4_rank 0 = .ok (.aload_n 0, 1) := by decide +kernel
theorem dX4_rank_1 : decode cX4_rank 1 = .ok (.iload_n 1, 1) := by decide +kernel
theorem dX4_rank_2 : decode cX4_rank 2 = .ok (.invokevirtual 147, 3) := by decide +kernel
theorem dX4_rank_5 : decode cX4_rank 5 = .ok (.astore_n 3, 1) := by decide +kernel
theorem dX4_rank_6 : decode cX4_rank 6 = .ok (.iload_n 2, 1) := by decide +kernel
theorem dX4_rank_7 : decode cX4_rank 7 = .ok (.iconst (-1), 1) := by decide +kernel
theorem dX4_rank_8 : decode cX4_rank 8 = .ok (.if_icmp .lt 12, 3) := by decide +kernel
theorem dX4_rank_11 : decode cX4_rank 11 = .ok (.iload_n 2, 1) := by decide +kernel
theorem dX4_rank_12 : decode cX4_rank 12 = .ok (.aload_n 3, 1) := by decide +kernel
theorem dX4_rank_13 : decode cX4_rank 13 = .ok (.getfield 151, 3) := by decide +kernel
theorem dX4_rank_16 : decode cX4_rank 16 = .ok (.arraylength, 1) := by decide +kernel
theorem dX4_rank_17 : decode cX4_rank 17 = .ok (.if_icmp .lt 13, 3) := by decide +kernel
theorem dX4_rank_20 : decode cX4_rank 20 = .ok (.new 114, 3) := by decide +kernel
theorem dX4_rank_23 : decode cX4_rank 23 = .ok (.dup, 1) := by decide +kernel
theorem dX4_rank_24 : decode cX4_rank 24 = .ok (.ldc 154, 2) := by decide +kernel
theorem dX4_rank_26 : decode cX4_rank 26 = .ok (.invokespecial 118, 3) := by decide +kernel
theorem dX4_rank_29 : decode cX4_rank 29 = .ok (.athrow, 1) := by decide +kernel
theorem dX4_rank_30 : decode cX4_rank 30 = .ok (.iload_n 2, 1) := by decide +kernel
theorem dX4_rank_31 : decode cX4_rank 31 = .ok (.iconst (-1), 1) := by decide +kernel
theorem dX4_rank_32 : decode cX4_rank 32 = .ok (.if_icmp .ne 11, 3) := by decide +kernel
theorem dX4_rank_35 : decode cX4_rank 35 = .ok (.aload_n 3, 1) := by decide +kernel
theorem dX4_rank_36 : decode cX4_rank 36 = .ok (.getfield 151, 3) := by decide +kernel
theorem dX4_rank_39 : decode cX4_rank 39 = .ok (.arraylength, 1) := by decide +kernel
end
section
theorem dX4_rank_40 : decode cX4_rank 40 = .ok (.goto 9, 3) := by decide +kernel
theorem dX4_rank_43 : decode cX4_rank 43 = .ok (.aload_n 3, 1) := by decide +kernel
theorem dX4_rank_44 : decode cX4_rank 44 = .ok (.getfield 151, 3) := by decide +kernel
theorem dX4_rank_47 : decode cX4_rank 47 = .ok (.iload_n 2, 1) := by decide +kernel
theorem dX4_rank_48 : decode cX4_rank 48 = .ok (.iaload, 1) := by decide +kernel
theorem dX4_rank_49 : decode cX4_rank 49 = .ok (.ireturn, 1) := by decide +kernel
theorem dX4_same_0 : decode cX4_same 0 = .ok (.aload_n 0, 1) := by decide +kernel
theorem dX4_same_1 : decode cX4_same 1 = .ok (.iload_n 1, 1) := by decide +kernel
theorem dX4_same_2 : decode cX4_same 2 = .ok (.invokevirtual 147, 3) := by decide +kernel
theorem dX4_same_5 : decode cX4_same 5 = .ok (.astore 4, 2) := by decide +kernel
theorem dX4_same_7 : decode cX4_same 7 = .ok (.iload_n 2, 1) := by decide +kernel
theorem dX4_same_8 : decode cX4_same 8 = .ok (.invokestatic 156, 3) := by decide +kernel
theorem dX4_same_11 : decode cX4_same 11 = .ok (.ifCond .ne 10, 3) := by decide +kernel
theorem dX4_same_14 : decode cX4_same 14 = .ok (.iload_n 3, 1) := by decide +kernel
theorem dX4_same_15 : decode cX4_same 15 = .ok (.invokestatic 156, 3) := by decide +kernel
theorem dX4_same_18 : decode cX4_same 18 = .ok (.ifCond .eq 13, 3) := by decide +kernel
theorem dX4_same_21 : decode cX4_same 21 = .ok (.new 48, 3) := by decide +kernel
theorem dX4_same_24 : decode cX4_same 24 = .ok (.dup, 1) := by decide +kernel
theorem dX4_same_25 : decode cX4_same 25 = .ok (.ldc 159, 2) := by decide +kernel
theorem dX4_same_27 : decode cX4_same 27 = .ok (.invokespecial 52, 3) := by decide +kernel
theorem dX4_same_30 : decode cX4_same 30 = .ok (.athrow, 1) := by decide +kernel
theorem dX4_same_31 : decode cX4_same 31 = .ok (.aload 4, 2) := by decide +kernel
theorem dX4_same_33 : decode cX4_same 33 = .ok (.iload_n 2, 1) := by decide +kernel
theorem dX4_same_34 : decode cX4_same 34 = .ok (.iload_n 3, 1) := by decide +kernel
theorem dX4_same_35 : decode cX4_same 35 = .ok (.invokevirtual 161, 3) := by decide +kernel
theorem dX4_same_38 : decode cX4_same 38 = .ok (.ireturn, 1) := by decide +kernel
theorem dX4_prints_0 : decode cX4_prints 0 = .ok (.aload_n 0, 1) := by decide +kernel
theorem dX4_prints_1 : decode cX4_prints 1 = .ok (.iload_n 1, 1) := by decide +kernel
theorem dX4_prints_2 : decode cX4_prints 2 = .ok (.invokevirtual 147, 3) := by decide +kernel
theorem dX4_prints_5 : decode cX4_prints 5 = .ok (.astore 5, 2) := by decide +kernel
theorem dX4_prints_7 : decode cX4_prints 7 = .ok (.aload_n 0, 1) := by decide +kernel
theorem dX4_prints_8 : decode cX4_prints 8 = .ok (.iload_n 2, 1) := by decide +kernel
theorem dX4_prints_9 : decode cX4_prints 9 = .ok (.invokevirtual 75, 3) := by decide +kernel
theorem dX4_prints_12 : decode cX4_prints 12 = .ok (.aload_n 0, 1) := by decide +kernel
theorem dX4_prints_13 : decode cX4_prints 13 = .ok (.iload_n 3, 1) := by decide +kernel
theorem dX4_prints_14 : decode cX4_prints 14 = .ok (.iload 4, 2) := by decide +kernel
theorem dX4_prints_16 : decode cX4_prints 16 = .ok (.invokevirtual 100, 3) := by decide +kernel
theorem dX4_prints_19 : decode cX4_prints 19 = .ok (.aload_n 0, 1) := by decide +kernel
theorem dX4_prints_20 : decode cX4_prints 20 = .ok (.getfield 30, 3) := by decide +kernel
theorem dX4_prints_23 : decode cX4_prints 23 = .ok (.aload_n 0, 1) := by decide +kernel
theorem dX4_prints_24 : decode cX4_prints 24 = .ok (.getfield 23, 3) := by decide +kernel
theorem dX4_prints_27 : decode cX4_prints 27 = .ok (.iload_n 2, 1) := by decide +kernel
theorem dX4_prints_28 : decode cX4_prints 28 = .ok (.iload_n 3, 1) := by decide +kernel
theorem dX4_prints_29 : decode cX4_prints 29 = .ok (.aload_n 0, 1) := by decide +kernel
theorem dX4_prints_30 : decode cX4_prints 30 = .ok (.getfield 23, 3) := by decide +kernel
theorem dX4_prints_33 : decode cX4_prints 33 = .ok (.getfield 83, 3) := by decide +kernel
theorem dX4_prints_36 : decode cX4_prints 36 = .ok (.iload 4, 2) := by decide +kernel
theorem dX4_prints_38 : decode cX4_prints 38 = .ok (.imul, 1) := by decide +kernel
theorem dX4_prints_39 : decode cX4_prints 39 = .ok (.iadd, 1) := by decide +kernel
theorem dX4_prints_40 : decode cX4_prints 40 = .ok (.invokevirtual 164, 3) := by decide +kernel
theorem dX4_prints_43 : decode cX4_prints 43 = .ok (.invokevirtual 110, 3) := by decide +kernel
theorem dX4_prints_46 : decode cX4_prints 46 = .ok (.istore 6, 2) := by decide +kernel
theorem dX4_prints_48 : decode cX4_prints 48 = .ok (.aload 5, 2) := by decide +kernel
theorem dX4_prints_50 : decode cX4_prints 50 = .ok (.iload 6, 2) := by decide +kernel
theorem dX4_prints_52 : decode cX4_prints 52 = .ok (.iload_n 3, 1) := by decide +kernel
theorem dX4_prints_53 : decode cX4_prints 53 = .ok (.iload 4, 2) := by decide +kernel
theorem dX4_prints_55 : decode cX4_prints 55 = .ok (.invokevirtual 167, 3) := by decide +kernel
theorem dX4_prints_58 : decode cX4_prints 58 = .ok (.ireturn, 1) := by decide +kernel
theorem dX4_covered_0 : decode cX4_covered 0 = .ok (.aload_n 0, 1) := by decide +kernel
theorem dX4_covered_1 : decode cX4_covered 1 = .ok (.iload_n 1, 1) := by decide +kernel
theorem dX4_covered_2 : decode cX4_covered 2 = .ok (.invokevirtual 75, 3) := by decide +kernel
theorem dX4_covered_5 : decode cX4_covered 5 = .ok (.lconst 0, 1) := by decide +kernel
theorem dX4_covered_6 : decode cX4_covered 6 = .ok (.lstore_n 2, 1) := by decide +kernel
theorem dX4_covered_7 : decode cX4_covered 7 = .ok (.iconst 0, 1) := by decide +kernel
theorem dX4_covered_8 : decode cX4_covered 8 = .ok (.istore 4, 2) := by decide +kernel
theorem dX4_covered_10 : decode cX4_covered 10 = .ok (.iload 4, 2) := by decide +kernel
theorem dX4_covered_12 : decode cX4_covered 12 = .ok (.aload_n 0, 1) := by decide +kernel
theorem dX4_covered_13 : decode cX4_covered 13 = .ok (.getfield 23, 3) := by decide +kernel
theorem dX4_covered_16 : decode cX4_covered 16 = .ok (.getfield 171, 3) := by decide +kernel
theorem dX4_covered_19 : decode cX4_covered 19 = .ok (.if_icmp .ge 23, 3) := by decide +kernel
theorem dX4_covered_22 : decode cX4_covered 22 = .ok (.lload_n 2, 1) := by decide +kernel
theorem dX4_covered_23 : decode cX4_covered 23 = .ok (.aload_n 0, 1) := by decide +kernel
theorem dX4_covered_24 : decode cX4_covered 24 = .ok (.getfield 23, 3) := by decide +kernel
theorem dX4_covered_27 : decode cX4_covered 27 = .ok (.iload_n 1, 1) := by decide +kernel
theorem dX4_covered_28 : decode cX4_covered 28 = .ok (.iload 4, 2) := by decide +kernel
theorem dX4_covered_30 : decode cX4_covered 30 = .ok (.invokevirtual 164, 3) := by decide +kernel
theorem dX4_covered_33 : decode cX4_covered 33 = .ok (.i2l, 1) := by decide +kernel
theorem dX4_covered_34 : decode cX4_covered 34 = .ok (.ladd, 1) := by decide +kernel
theorem dX4_covered_35 : decode cX4_covered 35 = .ok (.lstore_n 2, 1) := by decide +kernel
theorem dX4_covered_36 : decode cX4_covered 36 = .ok (.iinc 4 1, 3) := by decide +kernel
theorem dX4_covered_39 : decode cX4_covered 39 = .ok (.goto (-29), 3) := by decide +kernel
theorem dX4_covered_42 : decode cX4_covered 42 = .ok (.lload_n 2, 1) := by decide +kernel
theorem dX4_covered_43 : decode cX4_covered 43 = .ok (.lreturn, 1) := by decide +kernel
theorem dX4_packed_0 : decode cX4_packed 0 = .ok (.aload_n 0, 1) := by decide +kernel
theorem dX4_packed_1 : decode cX4_packed 1 = .ok (.iload_n 1, 1) := by decide +kernel
theorem dX4_packed_2 : decode cX4_packed 2 = .ok (.invokevirtual 75, 3) := by decide +kernel
theorem dX4_packed_5 : decode cX4_packed 5 = .ok (.iload_n 2, 1) := by decide +kernel
theorem dX4_packed_6 : decode cX4_packed 6 = .ok (.iconst (-1), 1) := by decide +kernel
theorem dX4_packed_7 : decode cX4_packed 7 = .ok (.if_icmp .ne 14, 3) := by decide +kernel
theorem dX4_packed_10 : decode cX4_packed 10 = .ok (.iconst 2, 1) := by decide +kernel
theorem dX4_packed_11 : decode cX4_packed 11 = .ok (.aload_n 0, 1) := by decide +kernel
theorem dX4_packed_12 : decode cX4_packed 12 = .ok (.getfield 23, 3) := by decide +kernel
theorem dX4_packed_15 : decode cX4_packed 15 = .ok (.iload_n 1, 1) := by decide +kernel
theorem dX4_packed_16 : decode cX4_packed 16 = .ok (.invokevirtual 174, 3) := by decide +kernel
theorem dX4_packed_19 : decode cX4_packed 19 = .ok (.imul, 1) := by decide +kernel
theorem dX4_packed_20 : decode cX4_packed 20 = .ok (.ireturn, 1) := by decide +kernel
theorem dX4_packed_21 : decode cX4_packed 21 = .ok (.iload_n 2, 1) := by decide +kernel
theorem dX4_packed_22 : decode cX4_packed 22 = .ok (.ifCond .ge 7, 3) := by decide +kernel
theorem dX4_packed_25 : decode cX4_packed 25 = .ok (.iconst (-1), 1) := by decide +kernel
theorem dX4_packed_26 : decode cX4_packed 26 = .ok (.goto 14, 3) := by decide +kernel
theorem dX4_packed_29 : decode cX4_packed 29 = .ok (.aload_n 0, 1) := by decide +kernel
theorem dX4_packed_30 : decode cX4_packed 30 = .ok (.getfield 23, 3) := by decide +kernel
theorem dX4_packed_33 : decode cX4_packed 33 = .ok (.iload_n 1, 1) := by decide +kernel
theorem dX4_packed_34 : decode cX4_packed 34 = .ok (.iload_n 2, 1) := by decide +kernel
theorem dX4_packed_35 : decode cX4_packed 35 = .ok (.iconst 2, 1) := by decide +kernel
theorem dX4_packed_36 : decode cX4_packed 36 = .ok (.idiv, 1) := by decide +kernel
theorem dX4_packed_37 : decode cX4_packed 37 = .ok (.invokevirtual 177, 3) := by decide +kernel
theorem dX4_packed_40 : decode cX4_packed 40 = .ok (.istore_n 3, 1) := by decide +kernel
theorem dX4_packed_41 : decode cX4_packed 41 = .ok (.iload_n 3, 1) := by decide +kernel
theorem dX4_packed_42 : decode cX4_packed 42 = .ok (.ifCond .ge 13, 3) := by decide +kernel
theorem dX4_packed_45 : decode cX4_packed 45 = .ok (.new 114, 3) := by decide +kernel
theorem dX4_packed_48 : decode cX4_packed 48 = .ok (.dup, 1) := by decide +kernel
theorem dX4_packed_49 : decode cX4_packed 49 = .ok (.ldc 180, 2) := by decide +kernel
theorem dX4_packed_51 : decode cX4_packed 51 = .ok (.invokespecial 118, 3) := by decide +kernel
theorem dX4_packed_54 : decode cX4_packed 54 = .ok (.athrow, 1) := by decide +kernel
theorem dX4_packed_55 : decode cX4_packed 55 = .ok (.iload_n 2, 1) := by decide +kernel
theorem dX4_packed_56 : decode cX4_packed 56 = .ok (.iconst 2, 1) := by decide +kernel
theorem dX4_packed_57 : decode cX4_packed 57 = .ok (.irem, 1) := by decide +kernel
theorem dX4_packed_58 : decode cX4_packed 58 = .ok (.ifCond .ne 15, 3) := by decide +kernel
theorem dX4_packed_61 : decode cX4_packed 61 = .ok (.aload_n 0, 1) := by decide +kernel
theorem dX4_packed_62 : decode cX4_packed 62 = .ok (.getfield 23, 3) := by decide +kernel
theorem dX4_packed_65 : decode cX4_packed 65 = .ok (.iload_n 1, 1) := by decide +kernel
theorem dX4_packed_66 : decode cX4_packed 66 = .ok (.iload_n 3, 1) := by decide +kernel
theorem dX4_packed_67 : decode cX4_packed 67 = .ok (.invokevirtual 182, 3) := by decide +kernel
theorem dX4_packed_70 : decode cX4_packed 70 = .ok (.goto 12, 3) := by decide +kernel
theorem dX4_packed_73 : decode cX4_packed 73 = .ok (.aload_n 0, 1) := by decide +kernel
theorem dX4_packed_74 : decode cX4_packed 74 = .ok (.getfield 23, 3) := by decide +kernel
theorem dX4_packed_77 : decode cX4_packed 77 = .ok (.iload_n 1, 1) := by decide +kernel
theorem dX4_packed_78 : decode cX4_packed 78 = .ok (.iload_n 3, 1) := by decide +kernel
theorem dX4_packed_79 : decode cX4_packed 79 = .ok (.invokevirtual 164, 3) := by decide +kernel
theorem dX4_packed_82 : decode cX4_packed 82 = .ok (.ireturn, 1) := by decide +kernel
theorem dX4_isByte_0 : decode cX4_isByte 0 = .ok (.iload_n 0, 1) := by decide +kernel
theorem dX4_isByte_1 : decode cX4_isByte 1 = .ok (.ifCond .lt 14, 3) := by decide +kernel
theorem dX4_isByte_4 : decode cX4_isByte 4 = .ok (.iload_n 0, 1) := by decide +kernel
theorem dX4_isByte_5 : decode cX4_isByte 5 = .ok (.sipush 255, 3) := by decide +kernel
theorem dX4_isByte_8 : decode cX4_isByte 8 = .ok (.if_icmp .gt 7, 3) := by decide +kernel
theorem dX4_isByte_11 : decode cX4_isByte 11 = .ok (.iconst 1, 1) := by decide +kernel
theorem dX4_isByte_12 : decode cX4_isByte 12 = .ok (.goto 4, 3) := by decide +kernel
theorem dX4_isByte_15 : decode cX4_isByte 15 = .ok (.iconst 0, 1) := by decide +kernel
theorem dX4_isByte_16 : decode cX4_isByte 16 = .ok (.ireturn, 1) := by decide +kernel
theorem dX4_isTooFar_0 : decode cX4_isTooFar 0 = .ok (.iload_n 0, 1) := by decide +kernel
theorem dX4_isTooFar_1 : decode cX4_isTooFar 1 = .ok (.ldc 185, 2) := by decide +kernel
theorem dX4_isTooFar_3 : decode cX4_isTooFar 3 = .ok (.if_icmp .lt 9, 3) := by decide +kernel
theorem dX4_isTooFar_6 : decode cX4_isTooFar 6 = .ok (.iload_n 0, 1) := by decide +kernel
theorem dX4_isTooFar_7 : decode cX4_isTooFar 7 = .ok (.ldc 186, 2) := by decide +kernel
theorem dX4_isTooFar_9 : decode cX4_isTooFar 9 = .ok (.if_icmp .le 7, 3) := by decide +kernel
theorem dX4_isTooFar_12 : decode cX4_isTooFar 12 = .ok (.iconst 1, 1) := by decide +kernel
theorem dX4_isTooFar_13 : decode cX4_isTooFar 13 = .ok (.goto 4, 3) := by decide +kernel
theorem dX4_isTooFar_16 : decode cX4_isTooFar 16 = .ok (.iconst 0, 1) := by decide +kernel
theorem dX4_isTooFar_17 : decode cX4_isTooFar 17 = .ok (.ireturn, 1) := by decide +kernel
theorem dX4_checkInk_0 : decode cX4_checkInk 0 = .ok (.iload_n 1, 1) := by decide +kernel
theorem dX4_checkInk_1 : decode cX4_checkInk 1 = .ok (.ifCond .lt 17, 3) := by decide +kernel
theorem dX4_checkInk_4 : decode cX4_checkInk 4 = .ok (.iload_n 1, 1) := by decide +kernel
theorem dX4_checkInk_5 : decode cX4_checkInk 5 = .ok (.aload_n 0, 1) := by decide +kernel
theorem dX4_checkInk_6 : decode cX4_checkInk 6 = .ok (.getfield 23, 3) := by decide +kernel
theorem dX4_checkInk_9 : decode cX4_checkInk 9 = .ok (.getfield 55, 3) := by decide +kernel
theorem dX4_checkInk_12 : decode cX4_checkInk 12 = .ok (.getfield 59, 3) := by decide +kernel
theorem dX4_checkInk_15 : decode cX4_checkInk 15 = .ok (.if_icmp .lt 13, 3) := by decide +kernel
theorem dX4_checkInk_18 : decode cX4_checkInk 18 = .ok (.new 114, 3) := by decide +kernel
theorem dX4_checkInk_21 : decode cX4_checkInk 21 = .ok (.dup, 1) := by decide +kernel
theorem dX4_checkInk_22 : decode cX4_checkInk 22 = .ok (.ldc 187, 2) := by decide +kernel
theorem dX4_checkInk_24 : decode cX4_checkInk 24 = .ok (.invokespecial 118, 3) := by decide +kernel
theorem dX4_checkInk_27 : decode cX4_checkInk 27 = .ok (.athrow, 1) := by decide +kernel
theorem dX4_checkInk_28 : decode cX4_checkInk 28 = .ok (.return_, 1) := by decide +kernel
theorem dX4_checkPoint_0 : decode cX4_checkPoint 0 = .ok (.iload_n 1, 1) := by decide +kernel
theorem dX4_checkPoint_1 : decode cX4_checkPoint 1 = .ok (.ifCond .lt 29, 3) := by decide +kernel
theorem dX4_checkPoint_4 : decode cX4_checkPoint 4 = .ok (.iload_n 1, 1) := by decide +kernel
theorem dX4_checkPoint_5 : decode cX4_checkPoint 5 = .ok (.aload_n 0, 1) := by decide +kernel
theorem dX4_checkPoint_6 : decode cX4_checkPoint 6 = .ok (.getfield 23, 3) := by decide +kernel
theorem dX4_checkPoint_9 : decode cX4_checkPoint 9 = .ok (.getfield 83, 3) := by decide +kernel
theorem dX4_checkPoint_12 : decode cX4_checkPoint 12 = .ok (.if_icmp .ge 18, 3) := by decide +kernel
theorem dX4_checkPoint_15 : decode cX4_checkPoint 15 = .ok (.iload_n 2, 1) := by decide +kernel
theorem dX4_checkPoint_16 : decode cX4_checkPoint 16 = .ok (.ifCond .lt 14, 3) := by decide +kernel
theorem dX4_checkPoint_19 : decode cX4_checkPoint 19 = .ok (.iload_n 2, 1) := by decide +kernel
theorem dX4_checkPoint_20 : decode cX4_checkPoint 20 = .ok (.aload_n 0, 1) := by decide +kernel
theorem dX4_checkPoint_21 : decode cX4_checkPoint 21 = .ok (.getfield 23, 3) := by decide +kernel
theorem dX4_checkPoint_24 : decode cX4_checkPoint 24 = .ok (.getfield 86, 3) := by decide +kernel
theorem dX4_checkPoint_27 : decode cX4_checkPoint 27 = .ok (.if_icmp .lt 13, 3) := by decide +kernel
theorem dX4_checkPoint_30 : decode cX4_checkPoint 30 = .ok (.new 114, 3) := by decide +kernel
theorem dX4_checkPoint_33 : decode cX4_checkPoint 33 = .ok (.dup, 1) := by decide +kernel
theorem dX4_checkPoint_34 : decode cX4_checkPoint 34 = .ok (.ldc 189, 2) := by decide +kernel
theorem dX4_checkPoint_36 : decode cX4_checkPoint 36 = .ok (.invokespecial 118, 3) := by decide +kernel
theorem dX4_checkPoint_39 : decode cX4_checkPoint 39 = .ok (.athrow, 1) := by decide +kernel
theorem dX4_checkPoint_40 : decode cX4_checkPoint 40 = .ok (.return_, 1) := by decide +kernel
theorem dX4_checkedCell_0 : decode cX4_checkedCell 0 = .ok (.iload_n 1, 1) := by decide +kernel
theorem dX4_checkedCell_1 : decode cX4_checkedCell 1 = .ok (.ifCond .lt 11, 3) := by decide +kernel
theorem dX4_checkedCell_4 : decode cX4_checkedCell 4 = .ok (.iload_n 1, 1) := by decide +kernel
theorem dX4_checkedCell_5 : decode cX4_checkedCell 5 = .ok (.aload_n 0, 1) := by decide +kernel
theorem dX4_checkedCell_6 : decode cX4_checkedCell 6 = .ok (.getfield 40, 3) := by decide +kernel
theorem dX4_checkedCell_9 : decode cX4_checkedCell 9 = .ok (.if_icmp .lt 7, 3) := by decide +kernel
theorem dX4_checkedCell_12 : decode cX4_checkedCell 12 = .ok (.aconst_null, 1) := by decide +kernel
theorem dX4_checkedCell_13 : decode cX4_checkedCell 13 = .ok (.goto 9, 3) := by decide +kernel
theorem dX4_checkedCell_16 : decode cX4_checkedCell 16 = .ok (.aload_n 0, 1) := by decide +kernel
theorem dX4_checkedCell_17 : decode cX4_checkedCell 17 = .ok (.getfield 36, 3) := by decide +kernel
theorem dX4_checkedCell_20 : decode cX4_checkedCell 20 = .ok (.iload_n 1, 1) := by decide +kernel
theorem dX4_checkedCell_21 : decode cX4_checkedCell 21 = .ok (.aaload, 1) := by decide +kernel
theorem dX4_checkedCell_22 : decode cX4_checkedCell 22 = .ok (.astore_n 2, 1) := by decide +kernel
theorem dX4_checkedCell_23 : decode cX4_checkedCell 23 = .ok (.aload_n 2, 1) := by decide +kernel
theorem dX4_checkedCell_24 : decode cX4_checkedCell 24 = .ok (.ifnonnull 13, 3) := by decide +kernel
theorem dX4_checkedCell_27 : decode cX4_checkedCell 27 = .ok (.new 114, 3) := by decide +kernel
theorem dX4_checkedCell_30 : decode cX4_checkedCell 30 = .ok (.dup, 1) := by decide +kernel
theorem dX4_checkedCell_31 : decode cX4_checkedCell 31 = .ok (.ldc 191, 2) := by decide +kernel
theorem dX4_checkedCell_33 : decode cX4_checkedCell 33 = .ok (.invokespecial 118, 3) := by decide +kernel
theorem dX4_checkedCell_36 : decode cX4_checkedCell 36 = .ok (.athrow, 1) := by decide +kernel
theorem dX4_checkedCell_37 : decode cX4_checkedCell 37 = .ok (.aload_n 2, 1) := by decide +kernel
theorem dX4_checkedCell_38 : decode cX4_checkedCell 38 = .ok (.areturn, 1) := by decide +kernel
theorem dX5_init_0 : decode cX5_init 0 = .ok (.aload_n 0, 1) := by decide +kernel
theorem dX5_init_1 : decode cX5_init 1 = .ok (.invokespecial 1, 3) := by decide +kernel
theorem dX5_init_4 : decode cX5_init 4 = .ok (.aload_n 0, 1) := by decide +kernel
theorem dX5_init_5 : decode cX5_init 5 = .ok (.iconst 4, 1) := by decide +kernel
theorem dX5_init_6 : decode cX5_init 6 = .ok (.putfield 7, 3) := by decide +kernel
theorem dX5_init_9 : decode cX5_init 9 = .ok (.aload_n 0, 1) := by decide +kernel
theorem dX5_init_10 : decode cX5_init 10 = .ok (.bipush 32, 2) := by decide +kernel
theorem dX5_init_12 : decode cX5_init 12 = .ok (.newarray .int, 2) := by decide +kernel
theorem dX5_init_14 : decode cX5_init 14 = .ok (.putfield 13, 3) := by decide +kernel
theorem dX5_init_17 : decode cX5_init 17 = .ok (.aload_n 0, 1) := by decide +kernel
theorem dX5_init_18 : decode cX5_init 18 = .ok (.sipush 1536, 3) := by decide +kernel
theorem dX5_init_21 : decode cX5_init 21 = .ok (.newarray .int, 2) := by decide +kernel
theorem dX5_init_23 : decode cX5_init 23 = .ok (.putfield 17, 3) := by decide +kernel
theorem dX5_init_26 : decode cX5_init 26 = .ok (.aload_n 0, 1) := by decide +kernel
theorem dX5_init_27 : decode cX5_init 27 = .ok (.bipush 8, 2) := by decide +kernel
theorem dX5_init_29 : decode cX5_init 29 = .ok (.newarray .int, 2) := by decide +kernel
theorem dX5_init_31 : decode cX5_init 31 = .ok (.putfield 20, 3) := by decide +kernel
theorem dX5_init_34 : decode cX5_init 34 = .ok (.aload_n 0, 1) := by decide +kernel
theorem dX5_init_35 : decode cX5_init 35 = .ok (.sipush 2040, 3) := by decide +kernel
theorem dX5_init_38 : decode cX5_init 38 = .ok (.putfield 23, 3) := by decide +kernel
theorem dX5_init_41 : decode cX5_init 41 = .ok (.aload_n 0, 1) := by decide +kernel
theorem dX5_init_42 : decode cX5_init 42 = .ok (.iconst 1, 1) := by decide +kernel
theorem dX5_init_43 : decode cX5_init 43 = .ok (.putfield 26, 3) := by decide +kernel
theorem dX5_init_46 : decode cX5_init 46 = .ok (.aload_n 0, 1) := by decide +kernel
theorem dX5_init_47 : decode cX5_init 47 = .ok (.sipush 256, 3) := by decide +kernel
theorem dX5_init_50 : decode cX5_init 50 = .ok (.newarray .int, 2) := by decide +kernel
theorem dX5_init_52 : decode cX5_init 52 = .ok (.putfield 29, 3) := by decide +kernel
theorem dX5_init_55 : decode cX5_init 55 = .ok (.aload_n 0, 1) := by decide +kernel
theorem dX5_init_56 : decode cX5_init 56 = .ok (.iconst 2, 1) := by decide +kernel
theorem dX5_init_57 : decode cX5_init 57 = .ok (.putfield 32, 3) := by decide +kernel
theorem dX5_init_60 : decode cX5_init 60 = .ok (.aload_n 0, 1) := by decide +kernel
theorem dX5_init_61 : decode cX5_init 61 = .ok (.bipush 6, 2) := by decide +kernel
theorem dX5_init_63 : decode cX5_init 63 = .ok (.newarray .int, 2) := by decide +kernel
theorem dX5_init_65 : decode cX5_init 65 = .ok (.putfield 35, 3) := by decide +kernel
theorem dX5_init_68 : decode cX5_init 68 = .ok (.aload_n 0, 1) := by decide +kernel
theorem dX5_init_69 : decode cX5_init 69 = .ok (.bipush 6, 2) := by decide +kernel
theorem dX5_init_71 : decode cX5_init 71 = .ok (.newarray .int, 2) := by decide +kernel
theorem dX5_init_73 : decode cX5_init 73 = .ok (.putfield 38, 3) := by decide +kernel
theorem dX5_init_76 : decode cX5_init 76 = .ok (.aload_n 0, 1) := by decide +kernel
theorem dX5_init_77 : decode cX5_init 77 = .ok (.bipush 6, 2) := by decide +kernel
theorem dX5_init_79 : decode cX5_init 79 = .ok (.newarray .int, 2) := by decide +kernel
theorem dX5_init_81 : decode cX5_init 81 = .ok (.putfield 41, 3) := by decide +kernel
theorem dX5_init_84 : decode cX5_init 84 = .ok (.aload_n 0, 1) := by decide +kernel
theorem dX5_init_85 : decode cX5_init 85 = .ok (.bipush 6, 2) := by decide +kernel
theorem dX5_init_87 : decode cX5_init 87 = .ok (.newarray .int, 2) := by decide +kernel
theorem dX5_init_89 : decode cX5_init 89 = .ok (.putfield 44, 3) := by decide +kernel
theorem dX5_init_92 : decode cX5_init 92 = .ok (.aload_n 0, 1) := by decide +kernel
theorem dX5_init_93 : decode cX5_init 93 = .ok (.bipush 6, 2) := by decide +kernel
theorem dX5_init_95 : decode cX5_init 95 = .ok (.newarray .int, 2) := by decide +kernel
theorem dX5_init_97 : decode cX5_init 97 = .ok (.putfield 47, 3) := by decide +kernel
theorem dX5_init_100 : decode cX5_init 100 = .ok (.aload_n 0, 1) := by decide +kernel
theorem dX5_init_101 : decode cX5_init 101 = .ok (.sipush 1800, 3) := by decide +kernel
theorem dX5_init_104 : decode cX5_init 104 = .ok (.newarray .int, 2) := by decide +kernel
theorem dX5_init_106 : decode cX5_init 106 = .ok (.putfield 50, 3) := by decide +kernel
theorem dX5_init_109 : decode cX5_init 109 = .ok (.aload_n 0, 1) := by decide +kernel
theorem dX5_init_110 : decode cX5_init 110 = .ok (.sipush 1800, 3) := by decide +kernel
theorem dX5_init_113 : decode cX5_init 113 = .ok (.newarray .int, 2) := by decide +kernel
theorem dX5_init_115 : decode cX5_init 115 = .ok (.putfield 53, 3) := by decide +kernel
theorem dX5_init_118 : decode cX5_init 118 = .ok (.aload_n 0, 1) := by decide +kernel
theorem dX5_init_119 : decode cX5_init 119 = .ok (.iload_n 1, 1) := by decide +kernel
theorem dX5_init_120 : decode cX5_init 120 = .ok (.iconst 1, 1) := by decide +kernel
theorem dX5_init_121 : decode cX5_init 121 = .ok (.if_icmp .ge 7, 3) := by decide +kernel
theorem dX5_init_124 : decode cX5_init 124 = .ok (.iconst 1, 1) := by decide +kernel
theorem dX5_init_125 : decode cX5_init 125 = .ok (.goto 15, 3) := by decide +kernel
theorem dX5_init_128 : decode cX5_init 128 = .ok (.iload_n 1, 1) := by decide +kernel
theorem dX5_init_129 : decode cX5_init 129 = .ok (.bipush 16, 2) := by decide +kernel
theorem dX5_init_131 : decode cX5_init 131 = .ok (.if_icmp .le 8, 3) := by decide +kernel
theorem dX5_init_134 : decode cX5_init 134 = .ok (.bipush 16, 2) := by decide +kernel
theorem dX5_init_136 : decode cX5_init 136 = .ok (.goto 4, 3) := by decide +kernel
theorem dX5_init_139 : decode cX5_init 139 = .ok (.iload_n 1, 1) := by decide +kernel
theorem dX5_init_140 : decode cX5_init 140 = .ok (.putfield 56, 3) := by decide +kernel
theorem dX5_init_143 : decode cX5_init 143 = .ok (.aload_n 0, 1) := by decide +kernel
theorem dX5_init_144 : decode cX5_init 144 = .ok (.iload_n 2, 1) := by decide +kernel
theorem dX5_init_145 : decode cX5_init 145 = .ok (.iconst 1, 1) := by decide +kernel
theorem dX5_init_146 : decode cX5_init 146 = .ok (.if_icmp .ge 7, 3) := by decide +kernel
theorem dX5_init_149 : decode cX5_init 149 = .ok (.iconst 1, 1) := by decide +kernel
theorem dX5_init_150 : decode cX5_init 150 = .ok (.goto 15, 3) := by decide +kernel
theorem dX5_init_153 : decode cX5_init 153 = .ok (.iload_n 2, 1) := by decide +kernel
theorem dX5_init_154 : decode cX5_init 154 = .ok (.bipush 12, 2) := by decide +kernel
theorem dX5_init_156 : decode cX5_init 156 = .ok (.if_icmp .le 8, 3) := by decide +kernel
theorem dX5_init_159 : decode cX5_init 159 = .ok (.bipush 12, 2) := by decide +kernel
theorem dX5_init_161 : decode cX5_init 161 = .ok (.goto 4, 3) := by decide +kernel
theorem dX5_init_164 : decode cX5_init 164 = .ok (.iload_n 2, 1) := by decide +kernel
theorem dX5_init_165 : decode cX5_init 165 = .ok (.putfield 59, 3) := by decide +kernel
theorem dX5_init_168 : decode cX5_init 168 = .ok (.iconst 0, 1) := by decide +kernel
theorem dX5_init_169 : decode cX5_init 169 = .ok (.istore_n 3, 1) := by decide +kernel
theorem dX5_init_170 : decode cX5_init 170 = .ok (.iload_n 3, 1) := by decide +kernel
theorem dX5_init_171 : decode cX5_init 171 = .ok (.iconst 4, 1) := by decide +kernel
theorem dX5_init_172 : decode cX5_init 172 = .ok (.if_icmp .ge 20, 3) := by decide +kernel
theorem dX5_init_175 : decode cX5_init 175 = .ok (.aload_n 0, 1) := by decide +kernel
theorem dX5_init_176 : decode cX5_init 176 = .ok (.getfield 13, 3) := by decide +kernel
theorem dX5_init_179 : decode cX5_init 179 = .ok (.iconst 5, 1) := by decide +kernel
theorem dX5_init_180 : decode cX5_init 180 = .ok (.iload_n 3, 1) := by decide +kernel
theorem dX5_init_181 : decode cX5_init 181 = .ok (.imul, 1) := by decide +kernel
theorem dX5_init_182 : decode cX5_init 182 = .ok (.sipush 255, 3) := by decide +kernel
theorem dX5_init_185 : decode cX5_init 185 = .ok (.iastore, 1) := by decide +kernel
theorem dX5_init_186 : decode cX5_init 186 = .ok (.iinc 3 1, 3) := by decide +kernel
theorem dX5_init_189 : decode cX5_init 189 = .ok (.goto (-19), 3) := by decide +kernel
theorem dX5_init_192 : decode cX5_init 192 = .ok (.iconst 0, 1) := by decide +kernel
theorem dX5_init_193 : decode cX5_init 193 = .ok (.istore_n 3, 1) := by decide +kernel
theorem dX5_init_194 : decode cX5_init 194 = .ok (.iload_n 3, 1) := by decide +kernel
theorem dX5_init_195 : decode cX5_init 195 = .ok (.bipush 8, 2) := by decide +kernel
theorem dX5_init_197 : decode cX5_init 197 = .ok (.if_icmp .ge 16, 3) := by decide +kernel
theorem dX5_init_200 : decode cX5_init 200 = .ok (.aload_n 0, 1) := by decide +kernel
theorem dX5_init_201 : decode cX5_init 201 = .ok (.getfield 20, 3) := by decide +kernel
theorem dX5_init_204 : decode cX5_init 204 = .ok (.iload_n 3, 1) := by decide +kernel
theorem dX5_init_205 : decode cX5_init 205 = .ok (.iconst (-1), 1) := by decide +kernel
theorem dX5_init_206 : decode cX5_init 206 = .ok (.iastore, 1) := by decide +kernel
theorem dX5_init_207 : decode cX5_init 207 = .ok (.iinc 3 1, 3) := by decide +kernel
theorem dX5_init_210 : decode cX5_init 210 = .ok (.goto (-16), 3) := by decide +kernel
theorem dX5_init_213 : decode cX5_init 213 = .ok (.iconst 1, 1) := by decide +kernel
theorem dX5_init_214 : decode cX5_init 214 = .ok (.istore_n 3, 1) := by decide +kernel
theorem dX5_init_215 : decode cX5_init 215 = .ok (.iload_n 3, 1) := by decide +kernel
theorem dX5_init_216 : decode cX5_init 216 = .ok (.sipush 255, 3) := by decide +kernel
theorem dX5_init_219 : decode cX5_init 219 = .ok (.if_icmp .ge 16, 3) := by decide +kernel
theorem dX5_init_222 : decode cX5_init 222 = .ok (.aload_n 0, 1) := by decide +kernel
theorem dX5_init_223 : decode cX5_init 223 = .ok (.getfield 29, 3) := by decide +kernel
theorem dX5_init_226 : decode cX5_init 226 = .ok (.iload_n 3, 1) := by decide +kernel
theorem dX5_init_227 : decode cX5_init 227 = .ok (.iconst (-1), 1) := by decide +kernel
theorem dX5_init_228 : decode cX5_init 228 = .ok (.iastore, 1) := by decide +kernel
theorem dX5_init_229 : decode cX5_init 229 = .ok (.iinc 3 1, 3) := by decide +kernel
theorem dX5_init_232 : decode cX5_init 232 = .ok (.goto (-17), 3) := by decide +kernel
theorem dX5_init_235 : decode cX5_init 235 = .ok (.aload_n 0, 1) := by decide +kernel
theorem dX5_init_236 : decode cX5_init 236 = .ok (.getfield 29, 3) := by decide +kernel
theorem dX5_init_239 : decode cX5_init 239 = .ok (.sipush 255, 3) := by decide +kernel
theorem dX5_init_242 : decode cX5_init 242 = .ok (.sipush 255, 3) := by decide +kernel
theorem dX5_init_245 : decode cX5_init 245 = .ok (.iastore, 1) := by decide +kernel
theorem dX5_init_246 : decode cX5_init 246 = .ok (.return_, 1) := by decide +kernel
theorem dX5_thrown_0 : decode cX5_thrown 0 = .ok (.aload_n 0, 1) := by decide +kernel
theorem dX5_thrown_1 : decode cX5_thrown 1 = .ok (.getfield 62, 3) := by decide +kernel
theorem dX5_thrown_4 : decode cX5_thrown 4 = .ok (.ireturn, 1) := by decide +kernel
theorem dX5_isByte_0 : decode cX5_isByte 0 = .ok (.iload_n 0, 1) := by decide +kernel
theorem dX5_isByte_1 : decode cX5_isByte 1 = .ok (.ifCond .lt 14, 3) := by decide +kernel
theorem dX5_isByte_4 : decode cX5_isByte 4 = .ok (.iload_n 0, 1) := by decide +kernel
theorem dX5_isByte_5 : decode cX5_isByte 5 = .ok (.sipush 255, 3) := by decide +kernel
theorem dX5_isByte_8 : decode cX5_isByte 8 = .ok (.if_icmp .gt 7, 3) := by decide +kernel
theorem dX5_isByte_11 : decode cX5_isByte 11 = .ok (.iconst 1, 1) := by decide +kernel
theorem dX5_isByte_12 : decode cX5_isByte 12 = .ok (.goto 4, 3) := by decide +kernel
theorem dX5_isByte_15 : decode cX5_isByte 15 = .ok (.iconst 0, 1) := by decide +kernel
theorem dX5_isByte_16 : decode cX5_isByte 16 = .ok (.ireturn, 1) := by decide +kernel
theorem dX5_isInk_0 : decode cX5_isInk 0 = .ok (.iload_n 1, 1) := by decide +kernel
theorem dX5_isInk_1 : decode cX5_isInk 1 = .ok (.ifCond .lt 15, 3) := by decide +kernel
theorem dX5_isInk_4 : decode cX5_isInk 4 = .ok (.iload_n 1, 1) := by decide +kernel
theorem dX5_isInk_5 : decode cX5_isInk 5 = .ok (.aload_n 0, 1) := by decide +kernel
theorem dX5_isInk_6 : decode cX5_isInk 6 = .ok (.getfield 7, 3) := by decide +kernel
theorem dX5_isInk_9 : decode cX5_isInk 9 = .ok (.if_icmp .ge 7, 3) := by decide +kernel
theorem dX5_isInk_12 : decode cX5_isInk 12 = .ok (.iconst 1, 1) := by decide +kernel
theorem dX5_isInk_13 : decode cX5_isInk 13 = .ok (.goto 4, 3) := by decide +kernel
theorem dX5_isInk_16 : decode cX5_isInk 16 = .ok (.iconst 0, 1) := by decide +kernel
theorem dX5_isInk_17 : decode cX5_isInk 17 = .ok (.ireturn, 1) := by decide +kernel
theorem dX5_isPoint_0 : decode cX5_isPoint 0 = .ok (.iload_n 1, 1) := by decide +kernel
theorem dX5_isPoint_1 : decode cX5_isPoint 1 = .ok (.ifCond .lt 27, 3) := by decide +kernel
theorem dX5_isPoint_4 : decode cX5_isPoint 4 = .ok (.iload_n 1, 1) := by decide +kernel
theorem dX5_isPoint_5 : decode cX5_isPoint 5 = .ok (.aload_n 0, 1) := by decide +kernel
theorem dX5_isPoint_6 : decode cX5_isPoint 6 = .ok (.getfield 56, 3) := by decide +kernel
theorem dX5_isPoint_9 : decode cX5_isPoint 9 = .ok (.if_icmp .ge 19, 3) := by decide +kernel
theorem dX5_isPoint_12 : decode cX5_isPoint 12 = .ok (.iload_n 2, 1) := by decide +kernel
theorem dX5_isPoint_13 : decode cX5_isPoint 13 = .ok (.ifCond .lt 15, 3) := by decide +kernel
theorem dX5_isPoint_16 : decode cX5_isPoint 16 = .ok (.iload_n 2, 1) := by decide +kernel
theorem dX5_isPoint_17 : decode cX5_isPoint 17 = .ok (.aload_n 0, 1) := by decide +kernel
theorem dX5_isPoint_18 : decode cX5_isPoint 18 = .ok (.getfield 59, 3) := by decide +kernel
theorem dX5_isPoint_21 : decode cX5_isPoint 21 = .ok (.if_icmp .ge 7, 3) := by decide +kernel
theorem dX5_isPoint_24 : decode cX5_isPoint 24 = .ok (.iconst 1, 1) := by decide +kernel
theorem dX5_isPoint_25 : decode cX5_isPoint 25 = .ok (.goto 4, 3) := by decide +kernel
theorem dX5_isPoint_28 : decode cX5_isPoint 28 = .ok (.iconst 0, 1) := by decide +kernel
theorem dX5_isPoint_29 : decode cX5_isPoint 29 = .ok (.ireturn, 1) := by decide +kernel
theorem dX5_byteAt_0 : decode cX5_byteAt 0 = .ok (.aload_n 0, 1) := by decide +kernel
theorem dX5_byteAt_1 : decode cX5_byteAt 1 = .ok (.getfield 17, 3) := by decide +kernel
theorem dX5_byteAt_4 : decode cX5_byteAt 4 = .ok (.bipush 8, 2) := by decide +kernel
theorem dX5_byteAt_6 : decode cX5_byteAt 6 = .ok (.bipush 16, 2) := by decide +kernel
theorem dX5_byteAt_8 : decode cX5_byteAt 8 = .ok (.iload_n 2, 1) := by decide +kernel
theorem dX5_byteAt_9 : decode cX5_byteAt 9 = .ok (.imul, 1) := by decide +kernel
theorem dX5_byteAt_10 : decode cX5_byteAt 10 = .ok (.iload_n 1, 1) := by decide +kernel
theorem dX5_byteAt_11 : decode cX5_byteAt 11 = .ok (.iadd, 1) := by decide +kernel
theorem dX5_byteAt_12 : decode cX5_byteAt 12 = .ok (.imul, 1) := by decide +kernel
theorem dX5_byteAt_13 : decode cX5_byteAt 13 = .ok (.iload_n 3, 1) := by decide +kernel
theorem dX5_byteAt_14 : decode cX5_byteAt 14 = .ok (.iadd, 1) := by decide +kernel
theorem dX5_byteAt_15 : decode cX5_byteAt 15 = .ok (.iaload, 1) := by decide +kernel
theorem dX5_byteAt_16 : decode cX5_byteAt 16 = .ok (.ireturn, 1) := by decide +kernel
theorem dX5_ink_0 : decode cX5_ink 0 = .ok (.aload_n 0, 1) := by decide +kernel
theorem dX5_ink_1 : decode cX5_ink 1 = .ok (.iload_n 1, 1) := by decide +kernel
theorem dX5_ink_2 : decode cX5_ink 2 = .ok (.invokestatic 65, 3) := by decide +kernel
theorem dX5_ink_5 : decode cX5_ink 5 = .ok (.ifCond .eq 25, 3) := by decide +kernel
theorem dX5_ink_8 : decode cX5_ink 8 = .ok (.iload_n 2, 1) := by decide +kernel
theorem dX5_ink_9 : decode cX5_ink 9 = .ok (.invokestatic 65, 3) := by decide +kernel
theorem dX5_ink_12 : decode cX5_ink 12 = .ok (.ifCond .eq 18, 3) := by decide +kernel
theorem dX5_ink_15 : decode cX5_ink 15 = .ok (.iload_n 3, 1) := by decide +kernel
theorem dX5_ink_16 : decode cX5_ink 16 = .ok (.invokestatic 65, 3) := by decide +kernel
theorem dX5_ink_19 : decode cX5_ink 19 = .ok (.ifCond .eq 11, 3) := by decide +kernel
theorem dX5_ink_22 : decode cX5_ink 22 = .ok (.iload 4, 2) := by decide +kernel
theorem dX5_ink_24 : decode cX5_ink 24 = .ok (.invokestatic 65, 3) := by decide +kernel
theorem dX5_ink_27 : decode cX5_ink 27 = .ok (.ifCond .ne 7, 3) := by decide +kernel
theorem dX5_ink_30 : decode cX5_ink 30 = .ok (.iconst 1, 1) := by decide +kernel
theorem dX5_ink_31 : decode cX5_ink 31 = .ok (.goto 17, 3) := by decide +kernel
theorem dX5_ink_34 : decode cX5_ink 34 = .ok (.aload_n 0, 1) := by decide +kernel
theorem dX5_ink_35 : decode cX5_ink 35 = .ok (.getfield 7, 3) := by decide +kernel
theorem dX5_ink_38 : decode cX5_ink 38 = .ok (.bipush 8, 2) := by decide +kernel
theorem dX5_ink_40 : decode cX5_ink 40 = .ok (.if_icmp .ne 7, 3) := by decide +kernel
theorem dX5_ink_43 : decode cX5_ink 43 = .ok (.iconst 2, 1) := by decide +kernel
theorem dX5_ink_44 : decode cX5_ink 44 = .ok (.goto 4, 3) := by decide +kernel
theorem dX5_ink_47 : decode cX5_ink 47 = .ok (.iconst 0, 1) := by decide +kernel
theorem dX5_ink_48 : decode cX5_ink 48 = .ok (.putfield 62, 3) := by decide +kernel
theorem dX5_ink_51 : decode cX5_ink 51 = .ok (.aload_n 0, 1) := by decide +kernel
theorem dX5_ink_52 : decode cX5_ink 52 = .ok (.getfield 62, 3) := by decide +kernel
theorem dX5_ink_55 : decode cX5_ink 55 = .ok (.ifCond .le 5, 3) := by decide +kernel
theorem dX5_ink_58 : decode cX5_ink 58 = .ok (.iconst 0, 1) := by decide +kernel
theorem dX5_ink_59 : decode cX5_ink 59 = .ok (.ireturn, 1) := by decide +kernel
theorem dX5_ink_60 : decode cX5_ink 60 = .ok (.aload_n 0, 1) := by decide +kernel
theorem dX5_ink_61 : decode cX5_ink 61 = .ok (.getfield 13, 3) := by decide +kernel
theorem dX5_ink_64 : decode cX5_ink 64 = .ok (.iconst 4, 1) := by decide +kernel
theorem dX5_ink_65 : decode cX5_ink 65 = .ok (.aload_n 0, 1) := by decide +kernel
theorem dX5_ink_66 : decode cX5_ink 66 = .ok (.getfield 7, 3) := by decide +kernel
theorem dX5_ink_69 : decode cX5_ink 69 = .ok (.imul, 1) := by decide +kernel
theorem dX5_ink_70 : decode cX5_ink 70 = .ok (.iload_n 1, 1) := by decide +kernel
theorem dX5_ink_71 : decode cX5_ink 71 = .ok (.iastore, 1) := by decide +kernel
theorem dX5_ink_72 : decode cX5_ink 72 = .ok (.aload_n 0, 1) := by decide +kernel
theorem dX5_ink_73 : decode cX5_ink 73 = .ok (.getfield 13, 3) := by decide +kernel
theorem dX5_ink_76 : decode cX5_ink 76 = .ok (.iconst 4, 1) := by decide +kernel
theorem dX5_ink_77 : decode cX5_ink 77 = .ok (.aload_n 0, 1) := by decide +kernel
theorem dX5_ink_78 : decode cX5_ink 78 = .ok (.getfield 7, 3) := by decide +kernel
theorem dX5_ink_81 : decode cX5_ink 81 = .ok (.imul, 1) := by decide +kernel
theorem dX5_ink_82 : decode cX5_ink 82 = .ok (.iconst 1, 1) := by decide +kernel
theorem dX5_ink_83 : decode cX5_ink 83 = .ok (.iadd, 1) := by decide +kernel
theorem dX5_ink_84 : decode cX5_ink 84 = .ok (.iload_n 2, 1) := by decide +kernel
theorem dX5_ink_85 : decode cX5_ink 85 = .ok (.iastore, 1) := by decide +kernel
theorem dX5_ink_86 : decode cX5_ink 86 = .ok (.aload_n 0, 1) := by decide +kernel
theorem dX5_ink_87 : decode cX5_ink 87 = .ok (.getfield 13, 3) := by decide +kernel
theorem dX5_ink_90 : decode cX5_ink 90 = .ok (.iconst 4, 1) := by decide +kernel
theorem dX5_ink_91 : decode cX5_ink 91 = .ok (.aload_n 0, 1) := by decide +kernel
theorem dX5_ink_92 : decode cX5_ink 92 = .ok (.getfield 7, 3) := by decide +kernel
theorem dX5_ink_95 : decode cX5_ink 95 = .ok (.imul, 1) := by decide +kernel
theorem dX5_ink_96 : decode cX5_ink 96 = .ok (.iconst 2, 1) := by decide +kernel
theorem dX5_ink_97 : decode cX5_ink 97 = .ok (.iadd, 1) := by decide +kernel
theorem dX5_ink_98 : decode cX5_ink 98 = .ok (.iload_n 3, 1) := by decide +kernel
theorem dX5_ink_99 : decode cX5_ink 99 = .ok (.iastore, 1) := by decide +kernel
theorem dX5_ink_100 : decode cX5_ink 100 = .ok (.aload_n 0, 1) := by decide +kernel
theorem dX5_ink_101 : decode cX5_ink 101 = .ok (.getfield 13, 3) := by decide +kernel
theorem dX5_ink_104 : decode cX5_ink 104 = .ok (.iconst 4, 1) := by decide +kernel
theorem dX5_ink_105 : decode cX5_ink 105 = .ok (.aload_n 0, 1) := by decide +kernel
theorem dX5_ink_106 : decode cX5_ink 106 = .ok (.getfield 7, 3) := by decide +kernel
theorem dX5_ink_109 : decode cX5_ink 109 = .ok (.imul, 1) := by decide +kernel
theorem dX5_ink_110 : decode cX5_ink 110 = .ok (.iconst 3, 1) := by decide +kernel
theorem dX5_ink_111 : decode cX5_ink 111 = .ok (.iadd, 1) := by decide +kernel
theorem dX5_ink_112 : decode cX5_ink 112 = .ok (.iload 4, 2) := by decide +kernel
theorem dX5_ink_114 : decode cX5_ink 114 = .ok (.iastore, 1) := by decide +kernel
theorem dX5_ink_115 : decode cX5_ink 115 = .ok (.aload_n 0, 1) := by decide +kernel
theorem dX5_ink_116 : decode cX5_ink 116 = .ok (.dup, 1) := by decide +kernel
theorem dX5_ink_117 : decode cX5_ink 117 = .ok (.getfield 7, 3) := by decide +kernel
theorem dX5_ink_120 : decode cX5_ink 120 = .ok (.iconst 1, 1) := by decide +kernel
theorem dX5_ink_121 : decode cX5_ink 121 = .ok (.iadd, 1) := by decide +kernel
theorem dX5_ink_122 : decode cX5_ink 122 = .ok (.putfield 7, 3) := by decide +kernel
theorem dX5_ink_125 : decode cX5_ink 125 = .ok (.aload_n 0, 1) := by decide +kernel
theorem dX5_ink_126 : decode cX5_ink 126 = .ok (.getfield 7, 3) := by decide +kernel
theorem dX5_ink_129 : decode cX5_ink 129 = .ok (.iconst 1, 1) := by decide +kernel
theorem dX5_ink_130 : decode cX5_ink 130 = .ok (.isub, 1) := by decide +kernel
theorem dX5_ink_131 : decode cX5_ink 131 = .ok (.ireturn, 1) := by decide +kernel
theorem dX5_colour_0 : decode cX5_colour 0 = .ok (.aload_n 0, 1) := by decide +kernel
theorem dX5_colour_1 : decode cX5_colour 1 = .ok (.iload_n 2, 1) := by decide +kernel
theorem dX5_colour_2 : decode cX5_colour 2 = .ok (.iconst (-1), 1) := by decide +kernel
theorem dX5_colour_3 : decode cX5_colour 3 = .ok (.if_icmp .lt 10, 3) := by decide +kernel
theorem dX5_colour_6 : decode cX5_colour 6 = .ok (.iload_n 2, 1) := by decide +kernel
theorem dX5_colour_7 : decode cX5_colour 7 = .ok (.sipush 255, 3) := by decide +kernel
theorem dX5_colour_10 : decode cX5_colour 10 = .ok (.if_icmp .le 7, 3) := by decide +kernel
theorem dX5_colour_13 : decode cX5_colour 13 = .ok (.iconst 1, 1) := by decide +kernel
theorem dX5_colour_14 : decode cX5_colour 14 = .ok (.goto 16, 3) := by decide +kernel
theorem dX5_colour_17 : decode cX5_colour 17 = .ok (.aload_n 0, 1) := by decide +kernel
theorem dX5_colour_18 : decode cX5_colour 18 = .ok (.iload_n 1, 1) := by decide +kernel
theorem dX5_colour_19 : decode cX5_colour 19 = .ok (.invokevirtual 69, 3) := by decide +kernel
theorem dX5_colour_22 : decode cX5_colour 22 = .ok (.ifCond .ne 7, 3) := by decide +kernel
theorem dX5_colour_25 : decode cX5_colour 25 = .ok (.iconst 2, 1) := by decide +kernel
theorem dX5_colour_26 : decode cX5_colour 26 = .ok (.goto 4, 3) := by decide +kernel
theorem dX5_colour_29 : decode cX5_colour 29 = .ok (.iconst 0, 1) := by decide +kernel
theorem dX5_colour_30 : decode cX5_colour 30 = .ok (.putfield 62, 3) := by decide +kernel
theorem dX5_colour_33 : decode cX5_colour 33 = .ok (.aload_n 0, 1) := by decide +kernel
theorem dX5_colour_34 : decode cX5_colour 34 = .ok (.getfield 62, 3) := by decide +kernel
theorem dX5_colour_37 : decode cX5_colour 37 = .ok (.ifCond .ne 10, 3) := by decide +kernel
theorem dX5_colour_40 : decode cX5_colour 40 = .ok (.aload_n 0, 1) := by decide +kernel
theorem dX5_colour_41 : decode cX5_colour 41 = .ok (.getfield 20, 3) := by decide +kernel
theorem dX5_colour_44 : decode cX5_colour 44 = .ok (.iload_n 1, 1) := by decide +kernel
theorem dX5_colour_45 : decode cX5_colour 45 = .ok (.iload_n 2, 1) := by decide +kernel
theorem dX5_colour_46 : decode cX5_colour 46 = .ok (.iastore, 1) := by decide +kernel
theorem dX5_colour_47 : decode cX5_colour 47 = .ok (.return_, 1) := by decide +kernel
theorem dX5_less_0 : decode cX5_less 0 = .ok (.iload_n 0, 1) := by decide +kernel
theorem dX5_less_1 : decode cX5_less 1 = .ok (.iload_n 1, 1) := by decide +kernel
theorem dX5_less_2 : decode cX5_less 2 = .ok (.if_icmp .ge 7, 3) := by decide +kernel
theorem dX5_less_5 : decode cX5_less 5 = .ok (.iload_n 0, 1) := by decide +kernel
theorem dX5_less_6 : decode cX5_less 6 = .ok (.goto 4, 3) := by decide +kernel
theorem dX5_less_9 : decode cX5_less 9 = .ok (.iload_n 1, 1) := by decide +kernel
theorem dX5_less_10 : decode cX5_less 10 = .ok (.ireturn, 1) := by decide +kernel
theorem dX5_more_0 : decode cX5_more 0 = .ok (.iload_n 0, 1) := by decide +kernel
theorem dX5_more_1 : decode cX5_more 1 = .ok (.iload_n 1, 1) := by decide +kernel
theorem dX5_more_2 : decode cX5_more 2 = .ok (.if_icmp .le 7, 3) := by decide +kernel
theorem dX5_more_5 : decode cX5_more 5 = .ok (.iload_n 0, 1) := by decide +kernel
theorem dX5_more_6 : decode cX5_more 6 = .ok (.goto 4, 3) := by decide +kernel
theorem dX5_more_9 : decode cX5_more 9 = .ok (.iload_n 1, 1) := by decide +kernel
theorem dX5_more_10 : decode cX5_more 10 = .ok (.ireturn, 1) := by decide +kernel
theorem dX5_sumAt_0 : decode cX5_sumAt 0 = .ok (.iconst 0, 1) := by decide +kernel
theorem dX5_sumAt_1 : decode cX5_sumAt 1 = .ok (.istore_n 2, 1) := by decide +kernel
theorem dX5_sumAt_2 : decode cX5_sumAt 2 = .ok (.iconst 0, 1) := by decide +kernel
theorem dX5_sumAt_3 : decode cX5_sumAt 3 = .ok (.istore_n 3, 1) := by decide +kernel
theorem dX5_sumAt_4 : decode cX5_sumAt 4 = .ok (.iload_n 3, 1) := by decide +kernel
theorem dX5_sumAt_5 : decode cX5_sumAt 5 = .ok (.bipush 8, 2) := by decide +kernel
theorem dX5_sumAt_7 : decode cX5_sumAt 7 = .ok (.if_icmp .ge 23, 3) := by decide +kernel
theorem dX5_sumAt_10 : decode cX5_sumAt 10 = .ok (.iload_n 2, 1) := by decide +kernel
theorem dX5_sumAt_11 : decode cX5_sumAt 11 = .ok (.aload_n 0, 1) := by decide +kernel
theorem dX5_sumAt_12 : decode cX5_sumAt 12 = .ok (.getfield 17, 3) := by decide +kernel
theorem dX5_sumAt_15 : decode cX5_sumAt 15 = .ok (.bipush 8, 2) := by decide +kernel
theorem dX5_sumAt_17 : decode cX5_sumAt 17 = .ok (.iload_n 1, 1) := by decide +kernel
theorem dX5_sumAt_18 : decode cX5_sumAt 18 = .ok (.imul, 1) := by decide +kernel
theorem dX5_sumAt_19 : decode cX5_sumAt 19 = .ok (.iload_n 3, 1) := by decide +kernel
theorem dX5_sumAt_20 : decode cX5_sumAt 20 = .ok (.iadd, 1) := by decide +kernel
theorem dX5_sumAt_21 : decode cX5_sumAt 21 = .ok (.iaload, 1) := by decide +kernel
theorem dX5_sumAt_22 : decode cX5_sumAt 22 = .ok (.iadd, 1) := by decide +kernel
theorem dX5_sumAt_23 : decode cX5_sumAt 23 = .ok (.istore_n 2, 1) := by decide +kernel
theorem dX5_sumAt_24 : decode cX5_sumAt 24 = .ok (.iinc 3 1, 3) := by decide +kernel
theorem dX5_sumAt_27 : decode cX5_sumAt 27 = .ok (.goto (-23), 3) := by decide +kernel
theorem dX5_sumAt_30 : decode cX5_sumAt 30 = .ok (.iload_n 2, 1) := by decide +kernel
theorem dX5_sumAt_31 : decode cX5_sumAt 31 = .ok (.ireturn, 1) := by decide +kernel
theorem dX5_bind_0 : decode cX5_bind 0 = .ok (.aload_n 0, 1) := by decide +kernel
theorem dX5_bind_1 : decode cX5_bind 1 = .ok (.iload_n 1, 1) := by decide +kernel
theorem dX5_bind_2 : decode cX5_bind 2 = .ok (.invokevirtual 72, 3) := by decide +kernel
theorem dX5_bind_5 : decode cX5_bind 5 = .ok (.istore_n 2, 1) := by decide +kernel
theorem dX5_bind_6 : decode cX5_bind 6 = .ok (.iload_n 2, 1) := by decide +kernel
theorem dX5_bind_7 : decode cX5_bind 7 = .ok (.aload_n 0, 1) := by decide +kernel
theorem dX5_bind_8 : decode cX5_bind 8 = .ok (.getfield 23, 3) := by decide +kernel
theorem dX5_bind_11 : decode cX5_bind 11 = .ok (.if_icmp .gt 4, 3) := by decide +kernel
theorem dX5_bind_14 : decode cX5_bind 14 = .ok (.return_, 1) := by decide +kernel
theorem dX5_bind_15 : decode cX5_bind 15 = .ok (.bipush 8, 2) := by decide +kernel
theorem dX5_bind_17 : decode cX5_bind 17 = .ok (.iload_n 1, 1) := by decide +kernel
theorem dX5_bind_18 : decode cX5_bind 18 = .ok (.imul, 1) := by decide +kernel
theorem dX5_bind_19 : decode cX5_bind 19 = .ok (.istore_n 3, 1) := by decide +kernel
theorem dX5_bind_20 : decode cX5_bind 20 = .ok (.iload_n 2, 1) := by decide +kernel
theorem dX5_bind_21 : decode cX5_bind 21 = .ok (.aload_n 0, 1) := by decide +kernel
theorem dX5_bind_22 : decode cX5_bind 22 = .ok (.getfield 23, 3) := by decide +kernel
theorem dX5_bind_25 : decode cX5_bind 25 = .ok (.isub, 1) := by decide +kernel
theorem dX5_bind_26 : decode cX5_bind 26 = .ok (.iconst 1, 1) := by decide +kernel
theorem dX5_bind_27 : decode cX5_bind 27 = .ok (.iadd, 1) := by decide +kernel
theorem dX5_bind_28 : decode cX5_bind 28 = .ok (.iconst 2, 1) := by decide +kernel
theorem dX5_bind_29 : decode cX5_bind 29 = .ok (.idiv, 1) := by decide +kernel
theorem dX5_bind_30 : decode cX5_bind 30 = .ok (.aload_n 0, 1) := by decide +kernel
theorem dX5_bind_31 : decode cX5_bind 31 = .ok (.getfield 17, 3) := by decide +kernel
theorem dX5_bind_34 : decode cX5_bind 34 = .ok (.iload_n 3, 1) := by decide +kernel
theorem dX5_bind_35 : decode cX5_bind 35 = .ok (.iaload, 1) := by decide +kernel
theorem dX5_bind_36 : decode cX5_bind 36 = .ok (.aload_n 0, 1) := by decide +kernel
theorem dX5_bind_37 : decode cX5_bind 37 = .ok (.getfield 17, 3) := by decide +kernel
theorem dX5_bind_40 : decode cX5_bind 40 = .ok (.iload_n 3, 1) := by decide +kernel
theorem dX5_bind_41 : decode cX5_bind 41 = .ok (.iconst 1, 1) := by decide +kernel
theorem dX5_bind_42 : decode cX5_bind 42 = .ok (.iadd, 1) := by decide +kernel
theorem dX5_bind_43 : decode cX5_bind 43 = .ok (.iaload, 1) := by decide +kernel
theorem dX5_bind_44 : decode cX5_bind 44 = .ok (.aload_n 0, 1) := by decide +kernel
theorem dX5_bind_45 : decode cX5_bind 45 = .ok (.getfield 17, 3) := by decide +kernel
theorem dX5_bind_48 : decode cX5_bind 48 = .ok (.iload_n 3, 1) := by decide +kernel
theorem dX5_bind_49 : decode cX5_bind 49 = .ok (.iconst 2, 1) := by decide +kernel
theorem dX5_bind_50 : decode cX5_bind 50 = .ok (.iadd, 1) := by decide +kernel
theorem dX5_bind_51 : decode cX5_bind 51 = .ok (.iaload, 1) := by decide +kernel
theorem dX5_bind_52 : decode cX5_bind 52 = .ok (.sipush 255, 3) := by decide +kernel
theorem dX5_bind_55 : decode cX5_bind 55 = .ok (.aload_n 0, 1) := by decide +kernel
theorem dX5_bind_56 : decode cX5_bind 56 = .ok (.getfield 17, 3) := by decide +kernel
theorem dX5_bind_59 : decode cX5_bind 59 = .ok (.iload_n 3, 1) := by decide +kernel
theorem dX5_bind_60 : decode cX5_bind 60 = .ok (.iconst 3, 1) := by decide +kernel
theorem dX5_bind_61 : decode cX5_bind 61 = .ok (.iadd, 1) := by decide +kernel
theorem dX5_bind_62 : decode cX5_bind 62 = .ok (.iaload, 1) := by decide +kernel
theorem dX5_bind_63 : decode cX5_bind 63 = .ok (.isub, 1) := by decide +kernel
theorem dX5_bind_64 : decode cX5_bind 64 = .ok (.invokestatic 76, 3) := by decide +kernel
theorem dX5_bind_67 : decode cX5_bind 67 = .ok (.invokestatic 76, 3) := by decide +kernel
theorem dX5_bind_70 : decode cX5_bind 70 = .ok (.invokestatic 76, 3) := by decide +kernel
theorem dX5_bind_73 : decode cX5_bind 73 = .ok (.invokestatic 76, 3) := by decide +kernel
theorem dX5_bind_76 : decode cX5_bind 76 = .ok (.istore 4, 2) := by decide +kernel
theorem dX5_bind_78 : decode cX5_bind 78 = .ok (.iconst 0, 1) := by decide +kernel
theorem dX5_bind_79 : decode cX5_bind 79 = .ok (.istore 5, 2) := by decide +kernel
theorem dX5_bind_81 : decode cX5_bind 81 = .ok (.iload 5, 2) := by decide +kernel
theorem dX5_bind_83 : decode cX5_bind 83 = .ok (.iconst 3, 1) := by decide +kernel
theorem dX5_bind_84 : decode cX5_bind 84 = .ok (.if_icmp .ge 30, 3) := by decide +kernel
theorem dX5_bind_87 : decode cX5_bind 87 = .ok (.aload_n 0, 1) := by decide +kernel
theorem dX5_bind_88 : decode cX5_bind 88 = .ok (.getfield 17, 3) := by decide +kernel
theorem dX5_bind_91 : decode cX5_bind 91 = .ok (.iload_n 3, 1) := by decide +kernel
theorem dX5_bind_92 : decode cX5_bind 92 = .ok (.iload 5, 2) := by decide +kernel
theorem dX5_bind_94 : decode cX5_bind 94 = .ok (.iadd, 1) := by decide +kernel
theorem dX5_bind_95 : decode cX5_bind 95 = .ok (.aload_n 0, 1) := by decide +kernel
theorem dX5_bind_96 : decode cX5_bind 96 = .ok (.getfield 17, 3) := by decide +kernel
theorem dX5_bind_99 : decode cX5_bind 99 = .ok (.iload_n 3, 1) := by decide +kernel
theorem dX5_bind_100 : decode cX5_bind 100 = .ok (.iload 5, 2) := by decide +kernel
theorem dX5_bind_102 : decode cX5_bind 102 = .ok (.iadd, 1) := by decide +kernel
theorem dX5_bind_103 : decode cX5_bind 103 = .ok (.iaload, 1) := by decide +kernel
theorem dX5_bind_104 : decode cX5_bind 104 = .ok (.iload 4, 2) := by decide +kernel
theorem dX5_bind_106 : decode cX5_bind 106 = .ok (.isub, 1) := by decide +kernel
theorem dX5_bind_107 : decode cX5_bind 107 = .ok (.iastore, 1) := by decide +kernel
theorem dX5_bind_108 : decode cX5_bind 108 = .ok (.iinc 5 1, 3) := by decide +kernel
theorem dX5_bind_111 : decode cX5_bind 111 = .ok (.goto (-30), 3) := by decide +kernel
theorem dX5_bind_114 : decode cX5_bind 114 = .ok (.aload_n 0, 1) := by decide +kernel
theorem dX5_bind_115 : decode cX5_bind 115 = .ok (.getfield 17, 3) := by decide +kernel
theorem dX5_bind_118 : decode cX5_bind 118 = .ok (.iload_n 3, 1) := by decide +kernel
theorem dX5_bind_119 : decode cX5_bind 119 = .ok (.iconst 3, 1) := by decide +kernel
theorem dX5_bind_120 : decode cX5_bind 120 = .ok (.iadd, 1) := by decide +kernel
theorem dX5_bind_121 : decode cX5_bind 121 = .ok (.aload_n 0, 1) := by decide +kernel
theorem dX5_bind_122 : decode cX5_bind 122 = .ok (.getfield 17, 3) := by decide +kernel
theorem dX5_bind_125 : decode cX5_bind 125 = .ok (.iload_n 3, 1) := by decide +kernel
theorem dX5_bind_126 : decode cX5_bind 126 = .ok (.iconst 3, 1) := by decide +kernel
theorem dX5_bind_127 : decode cX5_bind 127 = .ok (.iadd, 1) := by decide +kernel
theorem dX5_bind_128 : decode cX5_bind 128 = .ok (.iaload, 1) := by decide +kernel
theorem dX5_bind_129 : decode cX5_bind 129 = .ok (.iload 4, 2) := by decide +kernel
theorem dX5_bind_131 : decode cX5_bind 131 = .ok (.iadd, 1) := by decide +kernel
theorem dX5_bind_132 : decode cX5_bind 132 = .ok (.iastore, 1) := by decide +kernel
theorem dX5_bind_133 : decode cX5_bind 133 = .ok (.aload_n 0, 1) := by decide +kernel
theorem dX5_bind_134 : decode cX5_bind 134 = .ok (.iload_n 1, 1) := by decide +kernel
theorem dX5_bind_135 : decode cX5_bind 135 = .ok (.invokevirtual 72, 3) := by decide +kernel
theorem dX5_bind_138 : decode cX5_bind 138 = .ok (.istore_n 2, 1) := by decide +kernel
theorem dX5_bind_139 : decode cX5_bind 139 = .ok (.iload_n 2, 1) := by decide +kernel
theorem dX5_bind_140 : decode cX5_bind 140 = .ok (.aload_n 0, 1) := by decide +kernel
theorem dX5_bind_141 : decode cX5_bind 141 = .ok (.getfield 23, 3) := by decide +kernel
theorem dX5_bind_144 : decode cX5_bind 144 = .ok (.if_icmp .gt 4, 3) := by decide +kernel
theorem dX5_bind_147 : decode cX5_bind 147 = .ok (.return_, 1) := by decide +kernel
theorem dX5_bind_148 : decode cX5_bind 148 = .ok (.aload_n 0, 1) := by decide +kernel
theorem dX5_bind_149 : decode cX5_bind 149 = .ok (.getfield 17, 3) := by decide +kernel
theorem dX5_bind_152 : decode cX5_bind 152 = .ok (.iload_n 3, 1) := by decide +kernel
theorem dX5_bind_153 : decode cX5_bind 153 = .ok (.iconst 3, 1) := by decide +kernel
theorem dX5_bind_154 : decode cX5_bind 154 = .ok (.iadd, 1) := by decide +kernel
theorem dX5_bind_155 : decode cX5_bind 155 = .ok (.iaload, 1) := by decide +kernel
theorem dX5_bind_156 : decode cX5_bind 156 = .ok (.istore 5, 2) := by decide +kernel
theorem dX5_bind_158 : decode cX5_bind 158 = .ok (.aload_n 0, 1) := by decide +kernel
theorem dX5_bind_159 : decode cX5_bind 159 = .ok (.getfield 23, 3) := by decide +kernel
theorem dX5_bind_162 : decode cX5_bind 162 = .ok (.iload 5, 2) := by decide +kernel
theorem dX5_bind_164 : decode cX5_bind 164 = .ok (.isub, 1) := by decide +kernel
theorem dX5_bind_165 : decode cX5_bind 165 = .ok (.iconst 0, 1) := by decide +kernel
theorem dX5_bind_166 : decode cX5_bind 166 = .ok (.invokestatic 80, 3) := by decide +kernel
theorem dX5_bind_169 : decode cX5_bind 169 = .ok (.istore 6, 2) := by decide +kernel
theorem dX5_bind_171 : decode cX5_bind 171 = .ok (.iconst 0, 1) := by decide +kernel
theorem dX5_bind_172 : decode cX5_bind 172 = .ok (.istore 7, 2) := by decide +kernel
theorem dX5_bind_174 : decode cX5_bind 174 = .ok (.iload 7, 2) := by decide +kernel
theorem dX5_bind_176 : decode cX5_bind 176 = .ok (.bipush 8, 2) := by decide +kernel
theorem dX5_bind_178 : decode cX5_bind 178 = .ok (.if_icmp .ge 65, 3) := by decide +kernel
theorem dX5_bind_181 : decode cX5_bind 181 = .ok (.aload_n 0, 1) := by decide +kernel
theorem dX5_bind_182 : decode cX5_bind 182 = .ok (.getfield 17, 3) := by decide +kernel
theorem dX5_bind_185 : decode cX5_bind 185 = .ok (.iload_n 3, 1) := by decide +kernel
theorem dX5_bind_186 : decode cX5_bind 186 = .ok (.iload 7, 2) := by decide +kernel
theorem dX5_bind_188 : decode cX5_bind 188 = .ok (.iadd, 1) := by decide +kernel
theorem dX5_bind_189 : decode cX5_bind 189 = .ok (.iload 7, 2) := by decide +kernel
theorem dX5_bind_191 : decode cX5_bind 191 = .ok (.iconst 3, 1) := by decide +kernel
theorem dX5_bind_192 : decode cX5_bind 192 = .ok (.if_icmp .eq 15, 3) := by decide +kernel
theorem dX5_bind_195 : decode cX5_bind 195 = .ok (.aload_n 0, 1) := by decide +kernel
theorem dX5_bind_196 : decode cX5_bind 196 = .ok (.getfield 17, 3) := by decide +kernel
theorem dX5_bind_199 : decode cX5_bind 199 = .ok (.iload_n 3, 1) := by decide +kernel
theorem dX5_bind_200 : decode cX5_bind 200 = .ok (.iload 7, 2) := by decide +kernel
theorem dX5_bind_202 : decode cX5_bind 202 = .ok (.iadd, 1) := by decide +kernel
theorem dX5_bind_203 : decode cX5_bind 203 = .ok (.iaload, 1) := by decide +kernel
theorem dX5_bind_204 : decode cX5_bind 204 = .ok (.ifCond .ne 15, 3) := by decide +kernel
theorem dX5_bind_207 : decode cX5_bind 207 = .ok (.aload_n 0, 1) := by decide +kernel
theorem dX5_bind_208 : decode cX5_bind 208 = .ok (.getfield 17, 3) := by decide +kernel
theorem dX5_bind_211 : decode cX5_bind 211 = .ok (.iload_n 3, 1) := by decide +kernel
theorem dX5_bind_212 : decode cX5_bind 212 = .ok (.iload 7, 2) := by decide +kernel
theorem dX5_bind_214 : decode cX5_bind 214 = .ok (.iadd, 1) := by decide +kernel
theorem dX5_bind_215 : decode cX5_bind 215 = .ok (.iaload, 1) := by decide +kernel
theorem dX5_bind_216 : decode cX5_bind 216 = .ok (.goto 20, 3) := by decide +kernel
theorem dX5_bind_219 : decode cX5_bind 219 = .ok (.aload_n 0, 1) := by decide +kernel
theorem dX5_bind_220 : decode cX5_bind 220 = .ok (.getfield 17, 3) := by decide +kernel
theorem dX5_bind_223 : decode cX5_bind 223 = .ok (.iload_n 3, 1) := by decide +kernel
theorem dX5_bind_224 : decode cX5_bind 224 = .ok (.iload 7, 2) := by decide +kernel
theorem dX5_bind_226 : decode cX5_bind 226 = .ok (.iadd, 1) := by decide +kernel
theorem dX5_bind_227 : decode cX5_bind 227 = .ok (.iaload, 1) := by decide +kernel
theorem dX5_bind_228 : decode cX5_bind 228 = .ok (.iload 6, 2) := by decide +kernel
theorem dX5_bind_230 : decode cX5_bind 230 = .ok (.imul, 1) := by decide +kernel
theorem dX5_bind_231 : decode cX5_bind 231 = .ok (.iload_n 2, 1) := by decide +kernel
theorem dX5_bind_232 : decode cX5_bind 232 = .ok (.iload 5, 2) := by decide +kernel
theorem dX5_bind_234 : decode cX5_bind 234 = .ok (.isub, 1) := by decide +kernel
theorem dX5_bind_235 : decode cX5_bind 235 = .ok (.idiv, 1) := by decide +kernel
theorem dX5_bind_236 : decode cX5_bind 236 = .ok (.iastore, 1) := by decide +kernel
theorem dX5_bind_237 : decode cX5_bind 237 = .ok (.iinc 7 1, 3) := by decide +kernel
theorem dX5_bind_240 : decode cX5_bind 240 = .ok (.goto (-66), 3) := by decide +kernel
theorem dX5_bind_243 : decode cX5_bind 243 = .ok (.aload_n 0, 1) := by decide +kernel
theorem dX5_bind_244 : decode cX5_bind 244 = .ok (.getfield 17, 3) := by decide +kernel
theorem dX5_bind_247 : decode cX5_bind 247 = .ok (.iload_n 3, 1) := by decide +kernel
theorem dX5_bind_248 : decode cX5_bind 248 = .ok (.iconst 3, 1) := by decide +kernel
theorem dX5_bind_249 : decode cX5_bind 249 = .ok (.iadd, 1) := by decide +kernel
theorem dX5_bind_250 : decode cX5_bind 250 = .ok (.iload 5, 2) := by decide +kernel
theorem dX5_bind_252 : decode cX5_bind 252 = .ok (.aload_n 0, 1) := by decide +kernel
theorem dX5_bind_253 : decode cX5_bind 253 = .ok (.getfield 23, 3) := by decide +kernel
theorem dX5_bind_256 : decode cX5_bind 256 = .ok (.invokestatic 76, 3) := by decide +kernel
theorem dX5_bind_259 : decode cX5_bind 259 = .ok (.iastore, 1) := by decide +kernel
theorem dX5_bind_260 : decode cX5_bind 260 = .ok (.return_, 1) := by decide +kernel
theorem dX5_paint_0 : decode cX5_paint 0 = .ok (.aload_n 0, 1) := by decide +kernel
theorem dX5_paint_1 : decode cX5_paint 1 = .ok (.iconst 0, 1) := by decide +kernel
theorem dX5_paint_2 : decode cX5_paint 2 = .ok (.putfield 62, 3) := by decide +kernel
theorem dX5_paint_5 : decode cX5_paint 5 = .ok (.iconst 0, 1) := by decide +kernel
theorem dX5_paint_6 : decode cX5_paint 6 = .ok (.istore 6, 2) := by decide +kernel
theorem dX5_paint_8 : decode cX5_paint 8 = .ok (.iconst 0, 1) := by decide +kernel
theorem dX5_paint_9 : decode cX5_paint 9 = .ok (.istore 7, 2) := by decide +kernel
theorem dX5_paint_11 : decode cX5_paint 11 = .ok (.iload 7, 2) := by decide +kernel
theorem dX5_paint_13 : decode cX5_paint 13 = .ok (.aload_n 0, 1) := by decide +kernel
theorem dX5_paint_14 : decode cX5_paint 14 = .ok (.getfield 59, 3) := by decide +kernel
theorem dX5_paint_17 : decode cX5_paint 17 = .ok (.if_icmp .ge 149, 3) := by decide +kernel
theorem dX5_paint_20 : decode cX5_paint 20 = .ok (.iconst 0, 1) := by decide +kernel
theorem dX5_paint_21 : decode cX5_paint 21 = .ok (.istore 8, 2) := by decide +kernel
theorem dX5_paint_23 : decode cX5_paint 23 = .ok (.iload 8, 2) := by decide +kernel
theorem dX5_paint_25 : decode cX5_paint 25 = .ok (.aload_n 0, 1) := by decide +kernel
theorem dX5_paint_26 : decode cX5_paint 26 = .ok (.getfield 56, 3) := by decide +kernel
theorem dX5_paint_29 : decode cX5_paint 29 = .ok (.if_icmp .ge 131, 3) := by decide +kernel
theorem dX5_paint_32 : decode cX5_paint 32 = .ok (.iload 8, 2) := by decide +kernel
theorem dX5_paint_34 : decode cX5_paint 34 = .ok (.iload_n 1, 1) := by decide +kernel
theorem dX5_paint_35 : decode cX5_paint 35 = .ok (.if_icmp .lt 119, 3) := by decide +kernel
theorem dX5_paint_38 : decode cX5_paint 38 = .ok (.iload 8, 2) := by decide +kernel
theorem dX5_paint_40 : decode cX5_paint 40 = .ok (.iload_n 3, 1) := by decide +kernel
theorem dX5_paint_41 : decode cX5_paint 41 = .ok (.if_icmp .gt 113, 3) := by decide +kernel
theorem dX5_paint_44 : decode cX5_paint 44 = .ok (.iload 7, 2) := by decide +kernel
theorem dX5_paint_46 : decode cX5_paint 46 = .ok (.iload_n 2, 1) := by decide +kernel
theorem dX5_paint_47 : decode cX5_paint 47 = .ok (.if_icmp .lt 107, 3) := by decide +kernel
theorem dX5_paint_50 : decode cX5_paint 50 = .ok (.iload 7, 2) := by decide +kernel
theorem dX5_paint_52 : decode cX5_paint 52 = .ok (.iload 4, 2) := by decide +kernel
theorem dX5_paint_54 : decode cX5_paint 54 = .ok (.if_icmp .gt 100, 3) := by decide +kernel
theorem dX5_paint_57 : decode cX5_paint 57 = .ok (.iinc 6 1, 3) := by decide +kernel
theorem dX5_paint_60 : decode cX5_paint 60 = .ok (.bipush 16, 2) := by decide +kernel
theorem dX5_paint_62 : decode cX5_paint 62 = .ok (.iload 7, 2) := by decide +kernel
theorem dX5_paint_64 : decode cX5_paint 64 = .ok (.imul, 1) := by decide +kernel
theorem dX5_paint_65 : decode cX5_paint 65 = .ok (.iload 8, 2) := by decide +kernel
theorem dX5_paint_67 : decode cX5_paint 67 = .ok (.iadd, 1) := by decide +kernel
theorem dX5_paint_68 : decode cX5_paint 68 = .ok (.istore 9, 2) := by decide +kernel
theorem dX5_paint_70 : decode cX5_paint 70 = .ok (.iconst 0, 1) := by decide +kernel
theorem dX5_paint_71 : decode cX5_paint 71 = .ok (.istore 10, 2) := by decide +kernel
theorem dX5_paint_73 : decode cX5_paint 73 = .ok (.iload 10, 2) := by decide +kernel
theorem dX5_paint_75 : decode cX5_paint 75 = .ok (.aload_n 0, 1) := by decide +kernel
theorem dX5_paint_76 : decode cX5_paint 76 = .ok (.getfield 7, 3) := by decide +kernel
theorem dX5_paint_79 : decode cX5_paint 79 = .ok (.if_icmp .ge 69, 3) := by decide +kernel
theorem dX5_paint_82 : decode cX5_paint 82 = .ok (.iload 5, 2) := by decide +kernel
theorem dX5_paint_84 : decode cX5_paint 84 = .ok (.ifCond .eq 19, 3) := by decide +kernel
theorem dX5_paint_87 : decode cX5_paint 87 = .ok (.aload_n 0, 1) := by decide +kernel
theorem dX5_paint_88 : decode cX5_paint 88 = .ok (.getfield 17, 3) := by decide +kernel
theorem dX5_paint_91 : decode cX5_paint 91 = .ok (.bipush 8, 2) := by decide +kernel
theorem dX5_paint_93 : decode cX5_paint 93 = .ok (.iload 9, 2) := by decide +kernel
theorem dX5_paint_95 : decode cX5_paint 95 = .ok (.imul, 1) := by decide +kernel
theorem dX5_paint_96 : decode cX5_paint 96 = .ok (.iload 10, 2) := by decide +kernel
theorem dX5_paint_98 : decode cX5_paint 98 = .ok (.iadd, 1) := by decide +kernel
theorem dX5_paint_99 : decode cX5_paint 99 = .ok (.iaload, 1) := by decide +kernel
theorem dX5_paint_100 : decode cX5_paint 100 = .ok (.goto 4, 3) := by decide +kernel
theorem dX5_paint_103 : decode cX5_paint 103 = .ok (.iconst 0, 1) := by decide +kernel
theorem dX5_paint_104 : decode cX5_paint 104 = .ok (.istore 11, 2) := by decide +kernel
theorem dX5_paint_106 : decode cX5_paint 106 = .ok (.aload_n 0, 1) := by decide +kernel
theorem dX5_paint_107 : decode cX5_paint 107 = .ok (.getfield 17, 3) := by decide +kernel
theorem dX5_paint_110 : decode cX5_paint 110 = .ok (.bipush 8, 2) := by decide +kernel
theorem dX5_paint_112 : decode cX5_paint 112 = .ok (.iload 9, 2) := by decide +kernel
theorem dX5_paint_114 : decode cX5_paint 114 = .ok (.imul, 1) := by decide +kernel
theorem dX5_paint_115 : decode cX5_paint 115 = .ok (.iload 10, 2) := by decide +kernel
theorem dX5_paint_117 : decode cX5_paint 117 = .ok (.iadd, 1) := by decide +kernel
theorem dX5_paint_118 : decode cX5_paint 118 = .ok (.aload_n 0, 1) := by decide +kernel
theorem dX5_paint_119 : decode cX5_paint 119 = .ok (.getfield 20, 3) := by decide +kernel
theorem dX5_paint_122 : decode cX5_paint 122 = .ok (.iload 10, 2) := by decide +kernel
theorem dX5_paint_124 : decode cX5_paint 124 = .ok (.iaload, 1) := by decide +kernel
theorem dX5_paint_125 : decode cX5_paint 125 = .ok (.iconst (-1), 1) := by decide +kernel
theorem dX5_paint_126 : decode cX5_paint 126 = .ok (.if_icmp .ne 8, 3) := by decide +kernel
theorem dX5_paint_129 : decode cX5_paint 129 = .ok (.iload 11, 2) := by decide +kernel
theorem dX5_paint_131 : decode cX5_paint 131 = .ok (.goto 10, 3) := by decide +kernel
theorem dX5_paint_134 : decode cX5_paint 134 = .ok (.aload_n 0, 1) := by decide +kernel
theorem dX5_paint_135 : decode cX5_paint 135 = .ok (.getfield 20, 3) := by decide +kernel
theorem dX5_paint_138 : decode cX5_paint 138 = .ok (.iload 10, 2) := by decide +kernel
theorem dX5_paint_140 : decode cX5_paint 140 = .ok (.iaload, 1) := by decide +kernel
theorem dX5_paint_141 : decode cX5_paint 141 = .ok (.iastore, 1) := by decide +kernel
theorem dX5_paint_142 : decode cX5_paint 142 = .ok (.iinc 10 1, 3) := by decide +kernel
theorem dX5_paint_145 : decode cX5_paint 145 = .ok (.goto (-72), 3) := by decide +kernel
theorem dX5_paint_148 : decode cX5_paint 148 = .ok (.aload_n 0, 1) := by decide +kernel
theorem dX5_paint_149 : decode cX5_paint 149 = .ok (.iload 9, 2) := by decide +kernel
theorem dX5_paint_151 : decode cX5_paint 151 = .ok (.invokevirtual 83, 3) := by decide +kernel
theorem dX5_paint_154 : decode cX5_paint 154 = .ok (.iinc 8 1, 3) := by decide +kernel
theorem dX5_paint_157 : decode cX5_paint 157 = .ok (.goto (-134), 3) := by decide +kernel
theorem dX5_paint_160 : decode cX5_paint 160 = .ok (.iinc 7 1, 3) := by decide +kernel
theorem dX5_paint_163 : decode cX5_paint 163 = .ok (.goto (-152), 3) := by decide +kernel
theorem dX5_paint_166 : decode cX5_paint 166 = .ok (.iload 6, 2) := by decide +kernel
theorem dX5_paint_168 : decode cX5_paint 168 = .ok (.ireturn, 1) := by decide +kernel
theorem dX5_limit_0 : decode cX5_limit 0 = .ok (.aload_n 0, 1) := by decide +kernel
theorem dX5_limit_1 : decode cX5_limit 1 = .ok (.iload_n 1, 1) := by decide +kernel
theorem dX5_limit_2 : decode cX5_limit 2 = .ok (.ifCond .lt 10, 3) := by decide +kernel
theorem dX5_limit_5 : decode cX5_limit 5 = .ok (.iload_n 1, 1) := by decide +kernel
theorem dX5_limit_6 : decode cX5_limit 6 = .ok (.sipush 2040, 3) := by decide +kernel
theorem dX5_limit_9 : decode cX5_limit 9 = .ok (.if_icmp .le 7, 3) := by decide +kernel
theorem dX5_limit_12 : decode cX5_limit 12 = .ok (.iconst 1, 1) := by decide +kernel
theorem dX5_limit_13 : decode cX5_limit 13 = .ok (.goto 4, 3) := by decide +kernel
theorem dX5_limit_16 : decode cX5_limit 16 = .ok (.iconst 0, 1) := by decide +kernel
theorem dX5_limit_17 : decode cX5_limit 17 = .ok (.putfield 62, 3) := by decide +kernel
theorem dX5_limit_20 : decode cX5_limit 20 = .ok (.aload_n 0, 1) := by decide +kernel
theorem dX5_limit_21 : decode cX5_limit 21 = .ok (.getfield 23, 3) := by decide +kernel
theorem dX5_limit_24 : decode cX5_limit 24 = .ok (.istore_n 2, 1) := by decide +kernel
theorem dX5_limit_25 : decode cX5_limit 25 = .ok (.aload_n 0, 1) := by decide +kernel
theorem dX5_limit_26 : decode cX5_limit 26 = .ok (.aload_n 0, 1) := by decide +kernel
theorem dX5_limit_27 : decode cX5_limit 27 = .ok (.getfield 62, 3) := by decide +kernel
theorem dX5_limit_30 : decode cX5_limit 30 = .ok (.ifCond .le 10, 3) := by decide +kernel
theorem dX5_limit_33 : decode cX5_limit 33 = .ok (.aload_n 0, 1) := by decide +kernel
theorem dX5_limit_34 : decode cX5_limit 34 = .ok (.getfield 23, 3) := by decide +kernel
theorem dX5_limit_37 : decode cX5_limit 37 = .ok (.goto 4, 3) := by decide +kernel
theorem dX5_limit_40 : decode cX5_limit 40 = .ok (.iload_n 1, 1) := by decide +kernel
theorem dX5_limit_41 : decode cX5_limit 41 = .ok (.putfield 23, 3) := by decide +kernel
theorem dX5_limit_44 : decode cX5_limit 44 = .ok (.aload_n 0, 1) := by decide +kernel
theorem dX5_limit_45 : decode cX5_limit 45 = .ok (.getfield 62, 3) := by decide +kernel
theorem dX5_limit_48 : decode cX5_limit 48 = .ok (.ifCond .le 7, 3) := by decide +kernel
theorem dX5_limit_51 : decode cX5_limit 51 = .ok (.iconst 0, 1) := by decide +kernel
theorem dX5_limit_52 : decode cX5_limit 52 = .ok (.goto 4, 3) := by decide +kernel
theorem dX5_limit_55 : decode cX5_limit 55 = .ok (.iload_n 2, 1) := by decide +kernel
theorem dX5_limit_56 : decode cX5_limit 56 = .ok (.ireturn, 1) := by decide +kernel
theorem dX5_inkOf_0 : decode cX5_inkOf 0 = .ok (.aload_n 0, 1) := by decide +kernel
theorem dX5_inkOf_1 : decode cX5_inkOf 1 = .ok (.iload_n 1, 1) := by decide +kernel
theorem dX5_inkOf_2 : decode cX5_inkOf 2 = .ok (.iload_n 2, 1) := by decide +kernel
theorem dX5_inkOf_3 : decode cX5_inkOf 3 = .ok (.iload_n 3, 1) := by decide +kernel
theorem dX5_inkOf_4 : decode cX5_inkOf 4 = .ok (.invokevirtual 87, 3) := by decide +kernel
theorem dX5_inkOf_7 : decode cX5_inkOf 7 = .ok (.istore 5, 2) := by decide +kernel
theorem dX5_inkOf_9 : decode cX5_inkOf 9 = .ok (.iload 4, 2) := by decide +kernel
theorem dX5_inkOf_11 : decode cX5_inkOf 11 = .ok (.iconst (-1), 1) := by decide +kernel
theorem dX5_inkOf_12 : decode cX5_inkOf 12 = .ok (.if_icmp .ne 8, 3) := by decide +kernel
theorem dX5_inkOf_15 : decode cX5_inkOf 15 = .ok (.iload 5, 2) := by decide +kernel
theorem dX5_inkOf_17 : decode cX5_inkOf 17 = .ok (.goto 27, 3) := by decide +kernel
theorem dX5_inkOf_20 : decode cX5_inkOf 20 = .ok (.iload 5, 2) := by decide +kernel
theorem dX5_inkOf_22 : decode cX5_inkOf 22 = .ok (.aload_n 0, 1) := by decide +kernel
theorem dX5_inkOf_23 : decode cX5_inkOf 23 = .ok (.iload 4, 2) := by decide +kernel
theorem dX5_inkOf_25 : decode cX5_inkOf 25 = .ok (.aload_n 0, 1) := by decide +kernel
theorem dX5_inkOf_26 : decode cX5_inkOf 26 = .ok (.getfield 56, 3) := by decide +kernel
theorem dX5_inkOf_29 : decode cX5_inkOf 29 = .ok (.irem, 1) := by decide +kernel
theorem dX5_inkOf_30 : decode cX5_inkOf 30 = .ok (.iload 4, 2) := by decide +kernel
theorem dX5_inkOf_32 : decode cX5_inkOf 32 = .ok (.aload_n 0, 1) := by decide +kernel
theorem dX5_inkOf_33 : decode cX5_inkOf 33 = .ok (.getfield 56, 3) := by decide +kernel
theorem dX5_inkOf_36 : decode cX5_inkOf 36 = .ok (.idiv, 1) := by decide +kernel
theorem dX5_inkOf_37 : decode cX5_inkOf 37 = .ok (.iload_n 3, 1) := by decide +kernel
theorem dX5_inkOf_38 : decode cX5_inkOf 38 = .ok (.invokevirtual 87, 3) := by decide +kernel
theorem dX5_inkOf_41 : decode cX5_inkOf 41 = .ok (.invokestatic 80, 3) := by decide +kernel
theorem dX5_inkOf_44 : decode cX5_inkOf 44 = .ok (.ireturn, 1) := by decide +kernel
theorem dX5_bandOf_0 : decode cX5_bandOf 0 = .ok (.sipush 255, 3) := by decide +kernel
theorem dX5_bandOf_3 : decode cX5_bandOf 3 = .ok (.istore 5, 2) := by decide +kernel
theorem dX5_bandOf_5 : decode cX5_bandOf 5 = .ok (.iconst 0, 1) := by decide +kernel
theorem dX5_bandOf_6 : decode cX5_bandOf 6 = .ok (.istore 6, 2) := by decide +kernel
theorem dX5_bandOf_8 : decode cX5_bandOf 8 = .ok (.iload 6, 2) := by decide +kernel
theorem dX5_bandOf_10 : decode cX5_bandOf 10 = .ok (.aload_n 0, 1) := by decide +kernel
theorem dX5_bandOf_11 : decode cX5_bandOf 11 = .ok (.getfield 7, 3) := by decide +kernel
theorem dX5_bandOf_14 : decode cX5_bandOf 14 = .ok (.if_icmp .ge 68, 3) := by decide +kernel
theorem dX5_bandOf_17 : decode cX5_bandOf 17 = .ok (.aload_n 0, 1) := by decide +kernel
theorem dX5_bandOf_18 : decode cX5_bandOf 18 = .ok (.getfield 13, 3) := by decide +kernel
theorem dX5_bandOf_21 : decode cX5_bandOf 21 = .ok (.iconst 4, 1) := by decide +kernel
theorem dX5_bandOf_22 : decode cX5_bandOf 22 = .ok (.iload 6, 2) := by decide +kernel
theorem dX5_bandOf_24 : decode cX5_bandOf 24 = .ok (.imul, 1) := by decide +kernel
theorem dX5_bandOf_25 : decode cX5_bandOf 25 = .ok (.iload_n 3, 1) := by decide +kernel
theorem dX5_bandOf_26 : decode cX5_bandOf 26 = .ok (.iadd, 1) := by decide +kernel
theorem dX5_bandOf_27 : decode cX5_bandOf 27 = .ok (.iaload, 1) := by decide +kernel
theorem dX5_bandOf_28 : decode cX5_bandOf 28 = .ok (.aload_n 0, 1) := by decide +kernel
theorem dX5_bandOf_29 : decode cX5_bandOf 29 = .ok (.getfield 13, 3) := by decide +kernel
theorem dX5_bandOf_32 : decode cX5_bandOf 32 = .ok (.iconst 4, 1) := by decide +kernel
theorem dX5_bandOf_33 : decode cX5_bandOf 33 = .ok (.iload 6, 2) := by decide +kernel
theorem dX5_bandOf_35 : decode cX5_bandOf 35 = .ok (.imul, 1) := by decide +kernel
theorem dX5_bandOf_36 : decode cX5_bandOf 36 = .ok (.iconst 3, 1) := by decide +kernel
theorem dX5_bandOf_37 : decode cX5_bandOf 37 = .ok (.iadd, 1) := by decide +kernel
theorem dX5_bandOf_38 : decode cX5_bandOf 38 = .ok (.iaload, 1) := by decide +kernel
theorem dX5_bandOf_39 : decode cX5_bandOf 39 = .ok (.iadd, 1) := by decide +kernel
theorem dX5_bandOf_40 : decode cX5_bandOf 40 = .ok (.sipush 255, 3) := by decide +kernel
theorem dX5_bandOf_43 : decode cX5_bandOf 43 = .ok (.invokestatic 76, 3) := by decide +kernel
theorem dX5_bandOf_46 : decode cX5_bandOf 46 = .ok (.istore 7, 2) := by decide +kernel
theorem dX5_bandOf_48 : decode cX5_bandOf 48 = .ok (.iload 5, 2) := by decide +kernel
theorem dX5_bandOf_50 : decode cX5_bandOf 50 = .ok (.ldc 91, 2) := by decide +kernel
theorem dX5_bandOf_52 : decode cX5_bandOf 52 = .ok (.aload_n 0, 1) := by decide +kernel
theorem dX5_bandOf_53 : decode cX5_bandOf 53 = .ok (.iload_n 1, 1) := by decide +kernel
theorem dX5_bandOf_54 : decode cX5_bandOf 54 = .ok (.iload_n 2, 1) := by decide +kernel
theorem dX5_bandOf_55 : decode cX5_bandOf 55 = .ok (.iload 6, 2) := by decide +kernel
theorem dX5_bandOf_57 : decode cX5_bandOf 57 = .ok (.iload 4, 2) := by decide +kernel
theorem dX5_bandOf_59 : decode cX5_bandOf 59 = .ok (.invokevirtual 92, 3) := by decide +kernel
theorem dX5_bandOf_62 : decode cX5_bandOf 62 = .ok (.iload 7, 2) := by decide +kernel
theorem dX5_bandOf_64 : decode cX5_bandOf 64 = .ok (.imul, 1) := by decide +kernel
theorem dX5_bandOf_65 : decode cX5_bandOf 65 = .ok (.isub, 1) := by decide +kernel
theorem dX5_bandOf_66 : decode cX5_bandOf 66 = .ok (.imul, 1) := by decide +kernel
theorem dX5_bandOf_67 : decode cX5_bandOf 67 = .ok (.sipush 32512, 3) := by decide +kernel
theorem dX5_bandOf_70 : decode cX5_bandOf 70 = .ok (.iadd, 1) := by decide +kernel
theorem dX5_bandOf_71 : decode cX5_bandOf 71 = .ok (.ldc 91, 2) := by decide +kernel
theorem dX5_bandOf_73 : decode cX5_bandOf 73 = .ok (.idiv, 1) := by decide +kernel
theorem dX5_bandOf_74 : decode cX5_bandOf 74 = .ok (.istore 5, 2) := by decide +kernel
theorem dX5_bandOf_76 : decode cX5_bandOf 76 = .ok (.iinc 6 1, 3) := by decide +kernel
theorem dX5_bandOf_79 : decode cX5_bandOf 79 = .ok (.goto (-71), 3) := by decide +kernel
theorem dX5_bandOf_82 : decode cX5_bandOf 82 = .ok (.iload 5, 2) := by decide +kernel
theorem dX5_bandOf_84 : decode cX5_bandOf 84 = .ok (.ireturn, 1) := by decide +kernel
theorem dX5_lightness_0 : decode cX5_lightness 0 = .ok (.bipush 30, 2) := by decide +kernel
theorem dX5_lightness_2 : decode cX5_lightness 2 = .ok (.aload_n 0, 1) := by decide +kernel
theorem dX5_lightness_3 : decode cX5_lightness 3 = .ok (.iload_n 1, 1) := by decide +kernel
theorem dX5_lightness_4 : decode cX5_lightness 4 = .ok (.iload_n 2, 1) := by decide +kernel
theorem dX5_lightness_5 : decode cX5_lightness 5 = .ok (.iconst 0, 1) := by decide +kernel
theorem dX5_lightness_6 : decode cX5_lightness 6 = .ok (.iconst (-1), 1) := by decide +kernel
theorem dX5_lightness_7 : decode cX5_lightness 7 = .ok (.invokevirtual 96, 3) := by decide +kernel
theorem dX5_lightness_10 : decode cX5_lightness 10 = .ok (.imul, 1) := by decide +kernel
theorem dX5_lightness_11 : decode cX5_lightness 11 = .ok (.bipush 59, 2) := by decide +kernel
theorem dX5_lightness_13 : decode cX5_lightness 13 = .ok (.aload_n 0, 1) := by decide +kernel
theorem dX5_lightness_14 : decode cX5_lightness 14 = .ok (.iload_n 1, 1) := by decide +kernel
theorem dX5_lightness_15 : decode cX5_lightness 15 = .ok (.iload_n 2, 1) := by decide +kernel
theorem dX5_lightness_16 : decode cX5_lightness 16 = .ok (.iconst 1, 1) := by decide +kernel
theorem dX5_lightness_17 : decode cX5_lightness 17 = .ok (.iconst (-1), 1) := by decide +kernel
theorem dX5_lightness_18 : decode cX5_lightness 18 = .ok (.invokevirtual 96, 3) := by decide +kernel
theorem dX5_lightness_21 : decode cX5_lightness 21 = .ok (.imul, 1) := by decide +kernel
theorem dX5_lightness_22 : decode cX5_lightness 22 = .ok (.iadd, 1) := by decide +kernel
theorem dX5_lightness_23 : decode cX5_lightness 23 = .ok (.bipush 11, 2) := by decide +kernel
theorem dX5_lightness_25 : decode cX5_lightness 25 = .ok (.aload_n 0, 1) := by decide +kernel
theorem dX5_lightness_26 : decode cX5_lightness 26 = .ok (.iload_n 1, 1) := by decide +kernel
theorem dX5_lightness_27 : decode cX5_lightness 27 = .ok (.iload_n 2, 1) := by decide +kernel
theorem dX5_lightness_28 : decode cX5_lightness 28 = .ok (.iconst 2, 1) := by decide +kernel
theorem dX5_lightness_29 : decode cX5_lightness 29 = .ok (.iconst (-1), 1) := by decide +kernel
theorem dX5_lightness_30 : decode cX5_lightness 30 = .ok (.invokevirtual 96, 3) := by decide +kernel
theorem dX5_lightness_33 : decode cX5_lightness 33 = .ok (.imul, 1) := by decide +kernel
theorem dX5_lightness_34 : decode cX5_lightness 34 = .ok (.iadd, 1) := by decide +kernel
theorem dX5_lightness_35 : decode cX5_lightness 35 = .ok (.bipush 100, 2) := by decide +kernel
theorem dX5_lightness_37 : decode cX5_lightness 37 = .ok (.idiv, 1) := by decide +kernel
theorem dX5_lightness_38 : decode cX5_lightness 38 = .ok (.ireturn, 1) := by decide +kernel
theorem dX5_areUnlike_0 : decode cX5_areUnlike 0 = .ok (.iconst 0, 1) := by decide +kernel
theorem dX5_areUnlike_1 : decode cX5_areUnlike 1 = .ok (.istore 5, 2) := by decide +kernel
theorem dX5_areUnlike_3 : decode cX5_areUnlike 3 = .ok (.iconst 0, 1) := by decide +kernel
theorem dX5_areUnlike_4 : decode cX5_areUnlike 4 = .ok (.istore 6, 2) := by decide +kernel
theorem dX5_areUnlike_6 : decode cX5_areUnlike 6 = .ok (.iconst 0, 1) := by decide +kernel
theorem dX5_areUnlike_7 : decode cX5_areUnlike 7 = .ok (.istore 7, 2) := by decide +kernel
theorem dX5_areUnlike_9 : decode cX5_areUnlike 9 = .ok (.iconst 0, 1) := by decide +kernel
theorem dX5_areUnlike_10 : decode cX5_areUnlike 10 = .ok (.istore 8, 2) := by decide +kernel
theorem dX5_areUnlike_12 : decode cX5_areUnlike 12 = .ok (.iload 8, 2) := by decide +kernel
theorem dX5_areUnlike_14 : decode cX5_areUnlike 14 = .ok (.aload_n 0, 1) := by decide +kernel
theorem dX5_areUnlike_15 : decode cX5_areUnlike 15 = .ok (.getfield 7, 3) := by decide +kernel
theorem dX5_areUnlike_18 : decode cX5_areUnlike 18 = .ok (.if_icmp .ge 106, 3) := by decide +kernel
theorem dX5_areUnlike_21 : decode cX5_areUnlike 21 = .ok (.aload_n 0, 1) := by decide +kernel
theorem dX5_areUnlike_22 : decode cX5_areUnlike 22 = .ok (.iload_n 1, 1) := by decide +kernel
theorem dX5_areUnlike_23 : decode cX5_areUnlike 23 = .ok (.iload_n 2, 1) := by decide +kernel
theorem dX5_areUnlike_24 : decode cX5_areUnlike 24 = .ok (.iload 8, 2) := by decide +kernel
theorem dX5_areUnlike_26 : decode cX5_areUnlike 26 = .ok (.invokevirtual 87, 3) := by decide +kernel
theorem dX5_areUnlike_29 : decode cX5_areUnlike 29 = .ok (.bipush 25, 2) := by decide +kernel
theorem dX5_areUnlike_31 : decode cX5_areUnlike 31 = .ok (.if_icmp .lt 7, 3) := by decide +kernel
theorem dX5_areUnlike_34 : decode cX5_areUnlike 34 = .ok (.iconst 1, 1) := by decide +kernel
theorem dX5_areUnlike_35 : decode cX5_areUnlike 35 = .ok (.goto 4, 3) := by decide +kernel
theorem dX5_areUnlike_38 : decode cX5_areUnlike 38 = .ok (.iconst 0, 1) := by decide +kernel
theorem dX5_areUnlike_39 : decode cX5_areUnlike 39 = .ok (.istore 9, 2) := by decide +kernel
theorem dX5_areUnlike_41 : decode cX5_areUnlike 41 = .ok (.aload_n 0, 1) := by decide +kernel
theorem dX5_areUnlike_42 : decode cX5_areUnlike 42 = .ok (.iload_n 3, 1) := by decide +kernel
theorem dX5_areUnlike_43 : decode cX5_areUnlike 43 = .ok (.iload 4, 2) := by decide +kernel
theorem dX5_areUnlike_45 : decode cX5_areUnlike 45 = .ok (.iload 8, 2) := by decide +kernel
theorem dX5_areUnlike_47 : decode cX5_areUnlike 47 = .ok (.invokevirtual 87, 3) := by decide +kernel
theorem dX5_areUnlike_50 : decode cX5_areUnlike 50 = .ok (.bipush 25, 2) := by decide +kernel
theorem dX5_areUnlike_52 : decode cX5_areUnlike 52 = .ok (.if_icmp .lt 7, 3) := by decide +kernel
theorem dX5_areUnlike_55 : decode cX5_areUnlike 55 = .ok (.iconst 1, 1) := by decide +kernel
theorem dX5_areUnlike_56 : decode cX5_areUnlike 56 = .ok (.goto 4, 3) := by decide +kernel
theorem dX5_areUnlike_59 : decode cX5_areUnlike 59 = .ok (.iconst 0, 1) := by decide +kernel
theorem dX5_areUnlike_60 : decode cX5_areUnlike 60 = .ok (.istore 10, 2) := by decide +kernel
theorem dX5_areUnlike_62 : decode cX5_areUnlike 62 = .ok (.iload 5, 2) := by decide +kernel
theorem dX5_areUnlike_64 : decode cX5_areUnlike 64 = .ok (.ifCond .ne 13, 3) := by decide +kernel
theorem dX5_areUnlike_67 : decode cX5_areUnlike 67 = .ok (.iload 9, 2) := by decide +kernel
theorem dX5_areUnlike_69 : decode cX5_areUnlike 69 = .ok (.ifCond .eq 12, 3) := by decide +kernel
theorem dX5_areUnlike_72 : decode cX5_areUnlike 72 = .ok (.iload 10, 2) := by decide +kernel
theorem dX5_areUnlike_74 : decode cX5_areUnlike 74 = .ok (.ifCond .eq 7, 3) := by decide +kernel
theorem dX5_areUnlike_77 : decode cX5_areUnlike 77 = .ok (.iconst 1, 1) := by decide +kernel
theorem dX5_areUnlike_78 : decode cX5_areUnlike 78 = .ok (.goto 4, 3) := by decide +kernel
theorem dX5_areUnlike_81 : decode cX5_areUnlike 81 = .ok (.iconst 0, 1) := by decide +kernel
theorem dX5_areUnlike_82 : decode cX5_areUnlike 82 = .ok (.istore 5, 2) := by decide +kernel
theorem dX5_areUnlike_84 : decode cX5_areUnlike 84 = .ok (.iload 6, 2) := by decide +kernel
theorem dX5_areUnlike_86 : decode cX5_areUnlike 86 = .ok (.ifCond .ne 8, 3) := by decide +kernel
theorem dX5_areUnlike_89 : decode cX5_areUnlike 89 = .ok (.iload 9, 2) := by decide +kernel
theorem dX5_areUnlike_91 : decode cX5_areUnlike 91 = .ok (.ifCond .eq 7, 3) := by decide +kernel
theorem dX5_areUnlike_94 : decode cX5_areUnlike 94 = .ok (.iconst 1, 1) := by decide +kernel
theorem dX5_areUnlike_95 : decode cX5_areUnlike 95 = .ok (.goto 4, 3) := by decide +kernel
theorem dX5_areUnlike_98 : decode cX5_areUnlike 98 = .ok (.iconst 0, 1) := by decide +kernel
theorem dX5_areUnlike_99 : decode cX5_areUnlike 99 = .ok (.istore 6, 2) := by decide +kernel
theorem dX5_areUnlike_101 : decode cX5_areUnlike 101 = .ok (.iload 7, 2) := by decide +kernel
theorem dX5_areUnlike_103 : decode cX5_areUnlike 103 = .ok (.ifCond .ne 8, 3) := by decide +kernel
theorem dX5_areUnlike_106 : decode cX5_areUnlike 106 = .ok (.iload 10, 2) := by decide +kernel
theorem dX5_areUnlike_108 : decode cX5_areUnlike 108 = .ok (.ifCond .eq 7, 3) := by decide +kernel
theorem dX5_areUnlike_111 : decode cX5_areUnlike 111 = .ok (.iconst 1, 1) := by decide +kernel
theorem dX5_areUnlike_112 : decode cX5_areUnlike 112 = .ok (.goto 4, 3) := by decide +kernel
theorem dX5_areUnlike_115 : decode cX5_areUnlike 115 = .ok (.iconst 0, 1) := by decide +kernel
theorem dX5_areUnlike_116 : decode cX5_areUnlike 116 = .ok (.istore 7, 2) := by decide +kernel
theorem dX5_areUnlike_118 : decode cX5_areUnlike 118 = .ok (.iinc 8 1, 3) := by decide +kernel
theorem dX5_areUnlike_121 : decode cX5_areUnlike 121 = .ok (.goto (-109), 3) := by decide +kernel
theorem dX5_areUnlike_124 : decode cX5_areUnlike 124 = .ok (.iload 5, 2) := by decide +kernel
theorem dX5_areUnlike_126 : decode cX5_areUnlike 126 = .ok (.ifCond .ne 17, 3) := by decide +kernel
theorem dX5_areUnlike_129 : decode cX5_areUnlike 129 = .ok (.iload 6, 2) := by decide +kernel
theorem dX5_areUnlike_131 : decode cX5_areUnlike 131 = .ok (.ifCond .eq 12, 3) := by decide +kernel
theorem dX5_areUnlike_134 : decode cX5_areUnlike 134 = .ok (.iload 7, 2) := by decide +kernel
theorem dX5_areUnlike_136 : decode cX5_areUnlike 136 = .ok (.ifCond .eq 7, 3) := by decide +kernel
theorem dX5_areUnlike_139 : decode cX5_areUnlike 139 = .ok (.iconst 1, 1) := by decide +kernel
theorem dX5_areUnlike_140 : decode cX5_areUnlike 140 = .ok (.goto 4, 3) := by decide +kernel
theorem dX5_areUnlike_143 : decode cX5_areUnlike 143 = .ok (.iconst 0, 1) := by decide +kernel
theorem dX5_areUnlike_144 : decode cX5_areUnlike 144 = .ok (.ireturn, 1) := by decide +kernel
theorem dX5_lenderOf_0 : decode cX5_lenderOf 0 = .ok (.iconst (-1), 1) := by decide +kernel
theorem dX5_lenderOf_1 : decode cX5_lenderOf 1 = .ok (.istore_n 3, 1) := by decide +kernel
theorem dX5_lenderOf_2 : decode cX5_lenderOf 2 = .ok (.iconst 0, 1) := by decide +kernel
theorem dX5_lenderOf_3 : decode cX5_lenderOf 3 = .ok (.istore 4, 2) := by decide +kernel
theorem dX5_lenderOf_5 : decode cX5_lenderOf 5 = .ok (.aload_n 0, 1) := by decide +kernel
theorem dX5_lenderOf_6 : decode cX5_lenderOf 6 = .ok (.iload_n 1, 1) := by decide +kernel
theorem dX5_lenderOf_7 : decode cX5_lenderOf 7 = .ok (.iload_n 2, 1) := by decide +kernel
theorem dX5_lenderOf_8 : decode cX5_lenderOf 8 = .ok (.invokevirtual 99, 3) := by decide +kernel
theorem dX5_lenderOf_11 : decode cX5_lenderOf 11 = .ok (.istore 5, 2) := by decide +kernel
theorem dX5_lenderOf_13 : decode cX5_lenderOf 13 = .ok (.iconst 0, 1) := by decide +kernel
theorem dX5_lenderOf_14 : decode cX5_lenderOf 14 = .ok (.istore 6, 2) := by decide +kernel
theorem dX5_lenderOf_16 : decode cX5_lenderOf 16 = .ok (.iload 6, 2) := by decide +kernel
theorem dX5_lenderOf_18 : decode cX5_lenderOf 18 = .ok (.aload_n 0, 1) := by decide +kernel
theorem dX5_lenderOf_19 : decode cX5_lenderOf 19 = .ok (.getfield 59, 3) := by decide +kernel
theorem dX5_lenderOf_22 : decode cX5_lenderOf 22 = .ok (.if_icmp .ge 160, 3) := by decide +kernel
theorem dX5_lenderOf_25 : decode cX5_lenderOf 25 = .ok (.iconst 0, 1) := by decide +kernel
theorem dX5_lenderOf_26 : decode cX5_lenderOf 26 = .ok (.istore 7, 2) := by decide +kernel
theorem dX5_lenderOf_28 : decode cX5_lenderOf 28 = .ok (.iload 7, 2) := by decide +kernel
theorem dX5_lenderOf_30 : decode cX5_lenderOf 30 = .ok (.aload_n 0, 1) := by decide +kernel
theorem dX5_lenderOf_31 : decode cX5_lenderOf 31 = .ok (.getfield 56, 3) := by decide +kernel
theorem dX5_lenderOf_34 : decode cX5_lenderOf 34 = .ok (.if_icmp .ge 142, 3) := by decide +kernel
theorem dX5_lenderOf_37 : decode cX5_lenderOf 37 = .ok (.iload 7, 2) := by decide +kernel
theorem dX5_lenderOf_39 : decode cX5_lenderOf 39 = .ok (.iload_n 1, 1) := by decide +kernel
theorem dX5_lenderOf_40 : decode cX5_lenderOf 40 = .ok (.isub, 1) := by decide +kernel
theorem dX5_lenderOf_41 : decode cX5_lenderOf 41 = .ok (.istore 8, 2) := by decide +kernel
theorem dX5_lenderOf_43 : decode cX5_lenderOf 43 = .ok (.iload 6, 2) := by decide +kernel
theorem dX5_lenderOf_45 : decode cX5_lenderOf 45 = .ok (.iload_n 2, 1) := by decide +kernel
theorem dX5_lenderOf_46 : decode cX5_lenderOf 46 = .ok (.isub, 1) := by decide +kernel
theorem dX5_lenderOf_47 : decode cX5_lenderOf 47 = .ok (.istore 9, 2) := by decide +kernel
theorem dX5_lenderOf_49 : decode cX5_lenderOf 49 = .ok (.iload 8, 2) := by decide +kernel
theorem dX5_lenderOf_51 : decode cX5_lenderOf 51 = .ok (.iload 8, 2) := by decide +kernel
theorem dX5_lenderOf_53 : decode cX5_lenderOf 53 = .ok (.imul, 1) := by decide +kernel
theorem dX5_lenderOf_54 : decode cX5_lenderOf 54 = .ok (.iload 9, 2) := by decide +kernel
theorem dX5_lenderOf_56 : decode cX5_lenderOf 56 = .ok (.iload 9, 2) := by decide +kernel
theorem dX5_lenderOf_58 : decode cX5_lenderOf 58 = .ok (.imul, 1) := by decide +kernel
theorem dX5_lenderOf_59 : decode cX5_lenderOf 59 = .ok (.iadd, 1) := by decide +kernel
theorem dX5_lenderOf_60 : decode cX5_lenderOf 60 = .ok (.istore 10, 2) := by decide +kernel
theorem dX5_lenderOf_62 : decode cX5_lenderOf 62 = .ok (.iload 8, 2) := by decide +kernel
theorem dX5_lenderOf_64 : decode cX5_lenderOf 64 = .ok (.aload_n 0, 1) := by decide +kernel
theorem dX5_lenderOf_65 : decode cX5_lenderOf 65 = .ok (.getfield 26, 3) := by decide +kernel
theorem dX5_lenderOf_68 : decode cX5_lenderOf 68 = .ok (.if_icmp .gt 41, 3) := by decide +kernel
theorem dX5_lenderOf_71 : decode cX5_lenderOf 71 = .ok (.iload 8, 2) := by decide +kernel
theorem dX5_lenderOf_73 : decode cX5_lenderOf 73 = .ok (.ineg, 1) := by decide +kernel
theorem dX5_lenderOf_74 : decode cX5_lenderOf 74 = .ok (.aload_n 0, 1) := by decide +kernel
theorem dX5_lenderOf_75 : decode cX5_lenderOf 75 = .ok (.getfield 26, 3) := by decide +kernel
theorem dX5_lenderOf_78 : decode cX5_lenderOf 78 = .ok (.if_icmp .gt 31, 3) := by decide +kernel
theorem dX5_lenderOf_81 : decode cX5_lenderOf 81 = .ok (.iload 9, 2) := by decide +kernel
theorem dX5_lenderOf_83 : decode cX5_lenderOf 83 = .ok (.aload_n 0, 1) := by decide +kernel
theorem dX5_lenderOf_84 : decode cX5_lenderOf 84 = .ok (.getfield 26, 3) := by decide +kernel
theorem dX5_lenderOf_87 : decode cX5_lenderOf 87 = .ok (.if_icmp .gt 22, 3) := by decide +kernel
theorem dX5_lenderOf_90 : decode cX5_lenderOf 90 = .ok (.iload 9, 2) := by decide +kernel
theorem dX5_lenderOf_92 : decode cX5_lenderOf 92 = .ok (.ineg, 1) := by decide +kernel
theorem dX5_lenderOf_93 : decode cX5_lenderOf 93 = .ok (.aload_n 0, 1) := by decide +kernel
theorem dX5_lenderOf_94 : decode cX5_lenderOf 94 = .ok (.getfield 26, 3) := by decide +kernel
theorem dX5_lenderOf_97 : decode cX5_lenderOf 97 = .ok (.if_icmp .gt 12, 3) := by decide +kernel
theorem dX5_lenderOf_100 : decode cX5_lenderOf 100 = .ok (.iload 10, 2) := by decide +kernel
theorem dX5_lenderOf_102 : decode cX5_lenderOf 102 = .ok (.ifCond .le 7, 3) := by decide +kernel
theorem dX5_lenderOf_105 : decode cX5_lenderOf 105 = .ok (.iconst 1, 1) := by decide +kernel
theorem dX5_lenderOf_106 : decode cX5_lenderOf 106 = .ok (.goto 4, 3) := by decide +kernel
theorem dX5_lenderOf_109 : decode cX5_lenderOf 109 = .ok (.iconst 0, 1) := by decide +kernel
theorem dX5_lenderOf_110 : decode cX5_lenderOf 110 = .ok (.istore 11, 2) := by decide +kernel
theorem dX5_lenderOf_112 : decode cX5_lenderOf 112 = .ok (.iload 11, 2) := by decide +kernel
theorem dX5_lenderOf_114 : decode cX5_lenderOf 114 = .ok (.ifCond .eq 56, 3) := by decide +kernel
theorem dX5_lenderOf_117 : decode cX5_lenderOf 117 = .ok (.iload_n 3, 1) := by decide +kernel
theorem dX5_lenderOf_118 : decode cX5_lenderOf 118 = .ok (.iconst (-1), 1) := by decide +kernel
theorem dX5_lenderOf_119 : decode cX5_lenderOf 119 = .ok (.if_icmp .eq 10, 3) := by decide +kernel
theorem dX5_lenderOf_122 : decode cX5_lenderOf 122 = .ok (.iload 10, 2) := by decide +kernel
theorem dX5_lenderOf_124 : decode cX5_lenderOf 124 = .ok (.iload 4, 2) := by decide +kernel
theorem dX5_lenderOf_126 : decode cX5_lenderOf 126 = .ok (.if_icmp .ge 44, 3) := by decide +kernel
theorem dX5_lenderOf_129 : decode cX5_lenderOf 129 = .ok (.aload_n 0, 1) := by decide +kernel
theorem dX5_lenderOf_130 : decode cX5_lenderOf 130 = .ok (.iload_n 1, 1) := by decide +kernel
theorem dX5_lenderOf_131 : decode cX5_lenderOf 131 = .ok (.iload_n 2, 1) := by decide +kernel
theorem dX5_lenderOf_132 : decode cX5_lenderOf 132 = .ok (.iload 7, 2) := by decide +kernel
theorem dX5_lenderOf_134 : decode cX5_lenderOf 134 = .ok (.iload 6, 2) := by decide +kernel
theorem dX5_lenderOf_136 : decode cX5_lenderOf 136 = .ok (.invokevirtual 102, 3) := by decide +kernel
theorem dX5_lenderOf_139 : decode cX5_lenderOf 139 = .ok (.ifCond .eq 31, 3) := by decide +kernel
theorem dX5_lenderOf_142 : decode cX5_lenderOf 142 = .ok (.aload_n 0, 1) := by decide +kernel
theorem dX5_lenderOf_143 : decode cX5_lenderOf 143 = .ok (.iload 7, 2) := by decide +kernel
theorem dX5_lenderOf_145 : decode cX5_lenderOf 145 = .ok (.iload 6, 2) := by decide +kernel
theorem dX5_lenderOf_147 : decode cX5_lenderOf 147 = .ok (.invokevirtual 99, 3) := by decide +kernel
theorem dX5_lenderOf_150 : decode cX5_lenderOf 150 = .ok (.iload 5, 2) := by decide +kernel
theorem dX5_lenderOf_152 : decode cX5_lenderOf 152 = .ok (.if_icmp .le 18, 3) := by decide +kernel
theorem dX5_lenderOf_155 : decode cX5_lenderOf 155 = .ok (.iload 7, 2) := by decide +kernel
theorem dX5_lenderOf_157 : decode cX5_lenderOf 157 = .ok (.aload_n 0, 1) := by decide +kernel
theorem dX5_lenderOf_158 : decode cX5_lenderOf 158 = .ok (.getfield 56, 3) := by decide +kernel
theorem dX5_lenderOf_161 : decode cX5_lenderOf 161 = .ok (.iload 6, 2) := by decide +kernel
theorem dX5_lenderOf_163 : decode cX5_lenderOf 163 = .ok (.imul, 1) := by decide +kernel
theorem dX5_lenderOf_164 : decode cX5_lenderOf 164 = .ok (.iadd, 1) := by decide +kernel
theorem dX5_lenderOf_165 : decode cX5_lenderOf 165 = .ok (.istore_n 3, 1) := by decide +kernel
theorem dX5_lenderOf_166 : decode cX5_lenderOf 166 = .ok (.iload 10, 2) := by decide +kernel
theorem dX5_lenderOf_168 : decode cX5_lenderOf 168 = .ok (.istore 4, 2) := by decide +kernel
theorem dX5_lenderOf_170 : decode cX5_lenderOf 170 = .ok (.iinc 7 1, 3) := by decide +kernel
theorem dX5_lenderOf_173 : decode cX5_lenderOf 173 = .ok (.goto (-145), 3) := by decide +kernel
theorem dX5_lenderOf_176 : decode cX5_lenderOf 176 = .ok (.iinc 6 1, 3) := by decide +kernel
theorem dX5_lenderOf_179 : decode cX5_lenderOf 179 = .ok (.goto (-163), 3) := by decide +kernel
theorem dX5_lenderOf_182 : decode cX5_lenderOf 182 = .ok (.iload_n 3, 1) := by decide +kernel
theorem dX5_lenderOf_183 : decode cX5_lenderOf 183 = .ok (.ireturn, 1) := by decide +kernel
theorem dX5_curve_0 : decode cX5_curve 0 = .ok (.iload_n 1, 1) := by decide +kernel
theorem dX5_curve_1 : decode cX5_curve 1 = .ok (.istore_n 2, 1) := by decide +kernel
theorem dX5_curve_2 : decode cX5_curve 2 = .ok (.aload_n 0, 1) := by decide +kernel
theorem dX5_curve_3 : decode cX5_curve 3 = .ok (.getfield 29, 3) := by decide +kernel
theorem dX5_curve_6 : decode cX5_curve 6 = .ok (.iload_n 2, 1) := by decide +kernel
theorem dX5_curve_7 : decode cX5_curve 7 = .ok (.iaload, 1) := by decide +kernel
theorem dX5_curve_8 : decode cX5_curve 8 = .ok (.iconst (-1), 1) := by decide +kernel
theorem dX5_curve_9 : decode cX5_curve 9 = .ok (.if_icmp .ne 9, 3) := by decide +kernel
theorem dX5_curve_12 : decode cX5_curve 12 = .ok (.iinc 2 (-1), 3) := by decide +kernel
theorem dX5_curve_15 : decode cX5_curve 15 = .ok (.goto (-13), 3) := by decide +kernel
theorem dX5_curve_18 : decode cX5_curve 18 = .ok (.iload_n 2, 1) := by decide +kernel
theorem dX5_curve_19 : decode cX5_curve 19 = .ok (.iload_n 1, 1) := by decide +kernel
theorem dX5_curve_20 : decode cX5_curve 20 = .ok (.if_icmp .ne 10, 3) := by decide +kernel
theorem dX5_curve_23 : decode cX5_curve 23 = .ok (.aload_n 0, 1) := by decide +kernel
theorem dX5_curve_24 : decode cX5_curve 24 = .ok (.getfield 29, 3) := by decide +kernel
theorem dX5_curve_27 : decode cX5_curve 27 = .ok (.iload_n 2, 1) := by decide +kernel
theorem dX5_curve_28 : decode cX5_curve 28 = .ok (.iaload, 1) := by decide +kernel
theorem dX5_curve_29 : decode cX5_curve 29 = .ok (.ireturn, 1) := by decide +kernel
theorem dX5_curve_30 : decode cX5_curve 30 = .ok (.iload_n 1, 1) := by decide +kernel
theorem dX5_curve_31 : decode cX5_curve 31 = .ok (.istore_n 3, 1) := by decide +kernel
theorem dX5_curve_32 : decode cX5_curve 32 = .ok (.aload_n 0, 1) := by decide +kernel
theorem dX5_curve_33 : decode cX5_curve 33 = .ok (.getfield 29, 3) := by decide +kernel
theorem dX5_curve_36 : decode cX5_curve 36 = .ok (.iload_n 3, 1) := by decide +kernel
theorem dX5_curve_37 : decode cX5_curve 37 = .ok (.iaload, 1) := by decide +kernel
theorem dX5_curve_38 : decode cX5_curve 38 = .ok (.iconst (-1), 1) := by decide +kernel
theorem dX5_curve_39 : decode cX5_curve 39 = .ok (.if_icmp .ne 9, 3) := by decide +kernel
theorem dX5_curve_42 : decode cX5_curve 42 = .ok (.iinc 3 1, 3) := by decide +kernel
theorem dX5_curve_45 : decode cX5_curve 45 = .ok (.goto (-13), 3) := by decide +kernel
theorem dX5_curve_48 : decode cX5_curve 48 = .ok (.aload_n 0, 1) := by decide +kernel
theorem dX5_curve_49 : decode cX5_curve 49 = .ok (.getfield 29, 3) := by decide +kernel
theorem dX5_curve_52 : decode cX5_curve 52 = .ok (.iload_n 2, 1) := by decide +kernel
theorem dX5_curve_53 : decode cX5_curve 53 = .ok (.iaload, 1) := by decide +kernel
theorem dX5_curve_54 : decode cX5_curve 54 = .ok (.aload_n 0, 1) := by decide +kernel
theorem dX5_curve_55 : decode cX5_curve 55 = .ok (.getfield 29, 3) := by decide +kernel
theorem dX5_curve_58 : decode cX5_curve 58 = .ok (.iload_n 3, 1) := by decide +kernel
theorem dX5_curve_59 : decode cX5_curve 59 = .ok (.iaload, 1) := by decide +kernel
theorem dX5_curve_60 : decode cX5_curve 60 = .ok (.aload_n 0, 1) := by decide +kernel
theorem dX5_curve_61 : decode cX5_curve 61 = .ok (.getfield 29, 3) := by decide +kernel
theorem dX5_curve_64 : decode cX5_curve 64 = .ok (.iload_n 2, 1) := by decide +kernel
theorem dX5_curve_65 : decode cX5_curve 65 = .ok (.iaload, 1) := by decide +kernel
theorem dX5_curve_66 : decode cX5_curve 66 = .ok (.isub, 1) := by decide +kernel
theorem dX5_curve_67 : decode cX5_curve 67 = .ok (.iload_n 1, 1) := by decide +kernel
theorem dX5_curve_68 : decode cX5_curve 68 = .ok (.iload_n 2, 1) := by decide +kernel
theorem dX5_curve_69 : decode cX5_curve 69 = .ok (.isub, 1) := by decide +kernel
theorem dX5_curve_70 : decode cX5_curve 70 = .ok (.imul, 1) := by decide +kernel
theorem dX5_curve_71 : decode cX5_curve 71 = .ok (.iload_n 3, 1) := by decide +kernel
theorem dX5_curve_72 : decode cX5_curve 72 = .ok (.iload_n 2, 1) := by decide +kernel
theorem dX5_curve_73 : decode cX5_curve 73 = .ok (.isub, 1) := by decide +kernel
theorem dX5_curve_74 : decode cX5_curve 74 = .ok (.idiv, 1) := by decide +kernel
theorem dX5_curve_75 : decode cX5_curve 75 = .ok (.iadd, 1) := by decide +kernel
theorem dX5_curve_76 : decode cX5_curve 76 = .ok (.ireturn, 1) := by decide +kernel
theorem dX5_plate_0 : decode cX5_plate 0 = .ok (.aload_n 0, 1) := by decide +kernel
theorem dX5_plate_1 : decode cX5_plate 1 = .ok (.iload 4, 2) := by decide +kernel
theorem dX5_plate_3 : decode cX5_plate 3 = .ok (.ifCond .lt 9, 3) := by decide +kernel
theorem dX5_plate_6 : decode cX5_plate 6 = .ok (.iload 4, 2) := by decide +kernel
theorem dX5_plate_8 : decode cX5_plate 8 = .ok (.iconst 3, 1) := by decide +kernel
theorem dX5_plate_9 : decode cX5_plate 9 = .ok (.if_icmp .le 7, 3) := by decide +kernel
theorem dX5_plate_12 : decode cX5_plate 12 = .ok (.iconst 1, 1) := by decide +kernel
theorem dX5_plate_13 : decode cX5_plate 13 = .ok (.goto 25, 3) := by decide +kernel
theorem dX5_plate_16 : decode cX5_plate 16 = .ok (.aload_n 0, 1) := by decide +kernel
theorem dX5_plate_17 : decode cX5_plate 17 = .ok (.iload_n 1, 1) := by decide +kernel
theorem dX5_plate_18 : decode cX5_plate 18 = .ok (.invokevirtual 69, 3) := by decide +kernel
theorem dX5_plate_21 : decode cX5_plate 21 = .ok (.ifCond .eq 12, 3) := by decide +kernel
theorem dX5_plate_24 : decode cX5_plate 24 = .ok (.aload_n 0, 1) := by decide +kernel
theorem dX5_plate_25 : decode cX5_plate 25 = .ok (.iload_n 2, 1) := by decide +kernel
theorem dX5_plate_26 : decode cX5_plate 26 = .ok (.iload_n 3, 1) := by decide +kernel
theorem dX5_plate_27 : decode cX5_plate 27 = .ok (.invokevirtual 106, 3) := by decide +kernel
theorem dX5_plate_30 : decode cX5_plate 30 = .ok (.ifCond .ne 7, 3) := by decide +kernel
theorem dX5_plate_33 : decode cX5_plate 33 = .ok (.iconst 2, 1) := by decide +kernel
theorem dX5_plate_34 : decode cX5_plate 34 = .ok (.goto 4, 3) := by decide +kernel
theorem dX5_plate_37 : decode cX5_plate 37 = .ok (.iconst 0, 1) := by decide +kernel
theorem dX5_plate_38 : decode cX5_plate 38 = .ok (.putfield 62, 3) := by decide +kernel
theorem dX5_plate_41 : decode cX5_plate 41 = .ok (.aload_n 0, 1) := by decide +kernel
theorem dX5_plate_42 : decode cX5_plate 42 = .ok (.getfield 62, 3) := by decide +kernel
theorem dX5_plate_45 : decode cX5_plate 45 = .ok (.ifCond .le 5, 3) := by decide +kernel
theorem dX5_plate_48 : decode cX5_plate 48 = .ok (.iconst 0, 1) := by decide +kernel
theorem dX5_plate_49 : decode cX5_plate 49 = .ok (.ireturn, 1) := by decide +kernel
theorem dX5_plate_50 : decode cX5_plate 50 = .ok (.aload_n 0, 1) := by decide +kernel
theorem dX5_plate_51 : decode cX5_plate 51 = .ok (.iload_n 2, 1) := by decide +kernel
theorem dX5_plate_52 : decode cX5_plate 52 = .ok (.iload_n 3, 1) := by decide +kernel
theorem dX5_plate_53 : decode cX5_plate 53 = .ok (.iload_n 1, 1) := by decide +kernel
theorem dX5_plate_54 : decode cX5_plate 54 = .ok (.iload 4, 2) := by decide +kernel
theorem dX5_plate_56 : decode cX5_plate 56 = .ok (.iconst 2, 1) := by decide +kernel
theorem dX5_plate_57 : decode cX5_plate 57 = .ok (.irem, 1) := by decide +kernel
theorem dX5_plate_58 : decode cX5_plate 58 = .ok (.iconst 1, 1) := by decide +kernel
theorem dX5_plate_59 : decode cX5_plate 59 = .ok (.if_icmp .ne 12, 3) := by decide +kernel
theorem dX5_plate_62 : decode cX5_plate 62 = .ok (.aload_n 0, 1) := by decide +kernel
theorem dX5_plate_63 : decode cX5_plate 63 = .ok (.iload_n 2, 1) := by decide +kernel
theorem dX5_plate_64 : decode cX5_plate 64 = .ok (.iload_n 3, 1) := by decide +kernel
theorem dX5_plate_65 : decode cX5_plate 65 = .ok (.invokevirtual 110, 3) := by decide +kernel
theorem dX5_plate_68 : decode cX5_plate 68 = .ok (.goto 4, 3) := by decide +kernel
theorem dX5_plate_71 : decode cX5_plate 71 = .ok (.iconst (-1), 1) := by decide +kernel
theorem dX5_plate_72 : decode cX5_plate 72 = .ok (.invokevirtual 92, 3) := by decide +kernel
theorem dX5_plate_75 : decode cX5_plate 75 = .ok (.istore 5, 2) := by decide +kernel
theorem dX5_plate_77 : decode cX5_plate 77 = .ok (.iload 4, 2) := by decide +kernel
theorem dX5_plate_79 : decode cX5_plate 79 = .ok (.iconst 2, 1) := by decide +kernel
theorem dX5_plate_80 : decode cX5_plate 80 = .ok (.if_icmp .ge 8, 3) := by decide +kernel
theorem dX5_plate_83 : decode cX5_plate 83 = .ok (.iload 5, 2) := by decide +kernel
theorem dX5_plate_85 : decode cX5_plate 85 = .ok (.goto 9, 3) := by decide +kernel
theorem dX5_plate_88 : decode cX5_plate 88 = .ok (.aload_n 0, 1) := by decide +kernel
theorem dX5_plate_89 : decode cX5_plate 89 = .ok (.iload 5, 2) := by decide +kernel
theorem dX5_plate_91 : decode cX5_plate 91 = .ok (.invokevirtual 113, 3) := by decide +kernel
theorem dX5_plate_94 : decode cX5_plate 94 = .ok (.ireturn, 1) := by decide +kernel
theorem dX5_seen_0 : decode cX5_seen 0 = .ok (.aload_n 0, 1) := by decide +kernel
theorem dX5_seen_1 : decode cX5_seen 1 = .ok (.aload_n 0, 1) := by decide +kernel
theorem dX5_seen_2 : decode cX5_seen 2 = .ok (.iload_n 1, 1) := by decide +kernel
theorem dX5_seen_3 : decode cX5_seen 3 = .ok (.iload_n 2, 1) := by decide +kernel
theorem dX5_seen_4 : decode cX5_seen 4 = .ok (.invokevirtual 106, 3) := by decide +kernel
theorem dX5_seen_7 : decode cX5_seen 7 = .ok (.ifCond .eq 16, 3) := by decide +kernel
theorem dX5_seen_10 : decode cX5_seen 10 = .ok (.iload_n 3, 1) := by decide +kernel
theorem dX5_seen_11 : decode cX5_seen 11 = .ok (.ifCond .lt 12, 3) := by decide +kernel
theorem dX5_seen_14 : decode cX5_seen 14 = .ok (.iload_n 3, 1) := by decide +kernel
theorem dX5_seen_15 : decode cX5_seen 15 = .ok (.iconst 3, 1) := by decide +kernel
theorem dX5_seen_16 : decode cX5_seen 16 = .ok (.if_icmp .ge 7, 3) := by decide +kernel
theorem dX5_seen_19 : decode cX5_seen 19 = .ok (.iconst 0, 1) := by decide +kernel
theorem dX5_seen_20 : decode cX5_seen 20 = .ok (.goto 4, 3) := by decide +kernel
theorem dX5_seen_23 : decode cX5_seen 23 = .ok (.iconst 1, 1) := by decide +kernel
theorem dX5_seen_24 : decode cX5_seen 24 = .ok (.putfield 62, 3) := by decide +kernel
theorem dX5_seen_27 : decode cX5_seen 27 = .ok (.aload_n 0, 1) := by decide +kernel
theorem dX5_seen_28 : decode cX5_seen 28 = .ok (.getfield 62, 3) := by decide +kernel
theorem dX5_seen_31 : decode cX5_seen 31 = .ok (.ifCond .le 7, 3) := by decide +kernel
theorem dX5_seen_34 : decode cX5_seen 34 = .ok (.iconst 0, 1) := by decide +kernel
theorem dX5_seen_35 : decode cX5_seen 35 = .ok (.goto 25, 3) := by decide +kernel
theorem dX5_seen_38 : decode cX5_seen 38 = .ok (.aload_n 0, 1) := by decide +kernel
theorem dX5_seen_39 : decode cX5_seen 39 = .ok (.iload_n 1, 1) := by decide +kernel
theorem dX5_seen_40 : decode cX5_seen 40 = .ok (.iload_n 2, 1) := by decide +kernel
theorem dX5_seen_41 : decode cX5_seen 41 = .ok (.iload_n 3, 1) := by decide +kernel
theorem dX5_seen_42 : decode cX5_seen 42 = .ok (.iload 4, 2) := by decide +kernel
theorem dX5_seen_44 : decode cX5_seen 44 = .ok (.ifCond .eq 12, 3) := by decide +kernel
theorem dX5_seen_47 : decode cX5_seen 47 = .ok (.aload_n 0, 1) := by decide +kernel
theorem dX5_seen_48 : decode cX5_seen 48 = .ok (.iload_n 1, 1) := by decide +kernel
theorem dX5_seen_49 : decode cX5_seen 49 = .ok (.iload_n 2, 1) := by decide +kernel
theorem dX5_seen_50 : decode cX5_seen 50 = .ok (.invokevirtual 110, 3) := by decide +kernel
theorem dX5_seen_53 : decode cX5_seen 53 = .ok (.goto 4, 3) := by decide +kernel
theorem dX5_seen_56 : decode cX5_seen 56 = .ok (.iconst (-1), 1) := by decide +kernel
theorem dX5_seen_57 : decode cX5_seen 57 = .ok (.invokevirtual 96, 3) := by decide +kernel
theorem dX5_seen_60 : decode cX5_seen 60 = .ok (.ireturn, 1) := by decide +kernel
theorem dX5_lender_0 : decode cX5_lender 0 = .ok (.aload_n 0, 1) := by decide +kernel
theorem dX5_lender_1 : decode cX5_lender 1 = .ok (.aload_n 0, 1) := by decide +kernel
theorem dX5_lender_2 : decode cX5_lender 2 = .ok (.iload_n 1, 1) := by decide +kernel
theorem dX5_lender_3 : decode cX5_lender 3 = .ok (.iload_n 2, 1) := by decide +kernel
theorem dX5_lender_4 : decode cX5_lender 4 = .ok (.invokevirtual 106, 3) := by decide +kernel
theorem dX5_lender_7 : decode cX5_lender 7 = .ok (.ifCond .eq 7, 3) := by decide +kernel
theorem dX5_lender_10 : decode cX5_lender 10 = .ok (.iconst 0, 1) := by decide +kernel
theorem dX5_lender_11 : decode cX5_lender 11 = .ok (.goto 4, 3) := by decide +kernel
theorem dX5_lender_14 : decode cX5_lender 14 = .ok (.iconst 1, 1) := by decide +kernel
theorem dX5_lender_15 : decode cX5_lender 15 = .ok (.putfield 62, 3) := by decide +kernel
theorem dX5_lender_18 : decode cX5_lender 18 = .ok (.aload_n 0, 1) := by decide +kernel
theorem dX5_lender_19 : decode cX5_lender 19 = .ok (.getfield 62, 3) := by decide +kernel
theorem dX5_lender_22 : decode cX5_lender 22 = .ok (.ifCond .le 7, 3) := by decide +kernel
theorem dX5_lender_25 : decode cX5_lender 25 = .ok (.iconst 0, 1) := by decide +kernel
theorem dX5_lender_26 : decode cX5_lender 26 = .ok (.goto 9, 3) := by decide +kernel
theorem dX5_lender_29 : decode cX5_lender 29 = .ok (.aload_n 0, 1) := by decide +kernel
theorem dX5_lender_30 : decode cX5_lender 30 = .ok (.iload_n 1, 1) := by decide +kernel
theorem dX5_lender_31 : decode cX5_lender 31 = .ok (.iload_n 2, 1) := by decide +kernel
theorem dX5_lender_32 : decode cX5_lender 32 = .ok (.invokevirtual 110, 3) := by decide +kernel
theorem dX5_lender_35 : decode cX5_lender 35 = .ok (.ireturn, 1) := by decide +kernel
theorem dX5_width_0 : decode cX5_width 0 = .ok (.aload_n 0, 1) := by decide +kernel
theorem dX5_width_1 : decode cX5_width 1 = .ok (.iload_n 1, 1) := by decide +kernel
theorem dX5_width_2 : decode cX5_width 2 = .ok (.ifCond .lt 8, 3) := by decide +kernel
theorem dX5_width_5 : decode cX5_width 5 = .ok (.iload_n 1, 1) := by decide +kernel
theorem dX5_width_6 : decode cX5_width 6 = .ok (.iconst 3, 1) := by decide +kernel
theorem dX5_width_7 : decode cX5_width 7 = .ok (.if_icmp .le 7, 3) := by decide +kernel
theorem dX5_width_10 : decode cX5_width 10 = .ok (.iconst 1, 1) := by decide +kernel
theorem dX5_width_11 : decode cX5_width 11 = .ok (.goto 4, 3) := by decide +kernel
theorem dX5_width_14 : decode cX5_width 14 = .ok (.iconst 0, 1) := by decide +kernel
theorem dX5_width_15 : decode cX5_width 15 = .ok (.putfield 62, 3) := by decide +kernel
theorem dX5_width_18 : decode cX5_width 18 = .ok (.aload_n 0, 1) := by decide +kernel
theorem dX5_width_19 : decode cX5_width 19 = .ok (.getfield 26, 3) := by decide +kernel
theorem dX5_width_22 : decode cX5_width 22 = .ok (.istore_n 2, 1) := by decide +kernel
theorem dX5_width_23 : decode cX5_width 23 = .ok (.aload_n 0, 1) := by decide +kernel
theorem dX5_width_24 : decode cX5_width 24 = .ok (.aload_n 0, 1) := by decide +kernel
theorem dX5_width_25 : decode cX5_width 25 = .ok (.getfield 62, 3) := by decide +kernel
theorem dX5_width_28 : decode cX5_width 28 = .ok (.ifCond .le 10, 3) := by decide +kernel
theorem dX5_width_31 : decode cX5_width 31 = .ok (.aload_n 0, 1) := by decide +kernel
theorem dX5_width_32 : decode cX5_width 32 = .ok (.getfield 26, 3) := by decide +kernel
theorem dX5_width_35 : decode cX5_width 35 = .ok (.goto 4, 3) := by decide +kernel
theorem dX5_width_38 : decode cX5_width 38 = .ok (.iload_n 1, 1) := by decide +kernel
theorem dX5_width_39 : decode cX5_width 39 = .ok (.putfield 26, 3) := by decide +kernel
theorem dX5_width_42 : decode cX5_width 42 = .ok (.aload_n 0, 1) := by decide +kernel
theorem dX5_width_43 : decode cX5_width 43 = .ok (.getfield 62, 3) := by decide +kernel
theorem dX5_width_46 : decode cX5_width 46 = .ok (.ifCond .le 7, 3) := by decide +kernel
theorem dX5_width_49 : decode cX5_width 49 = .ok (.iconst 0, 1) := by decide +kernel
theorem dX5_width_50 : decode cX5_width 50 = .ok (.goto 4, 3) := by decide +kernel
theorem dX5_width_53 : decode cX5_width 53 = .ok (.iload_n 2, 1) := by decide +kernel
theorem dX5_width_54 : decode cX5_width 54 = .ok (.ireturn, 1) := by decide +kernel
theorem dX5_gain_0 : decode cX5_gain 0 = .ok (.aload_n 0, 1) := by decide +kernel
theorem dX5_gain_1 : decode cX5_gain 1 = .ok (.iload_n 1, 1) := by decide +kernel
theorem dX5_gain_2 : decode cX5_gain 2 = .ok (.invokestatic 65, 3) := by decide +kernel
theorem dX5_gain_5 : decode cX5_gain 5 = .ok (.ifCond .eq 10, 3) := by decide +kernel
theorem dX5_gain_8 : decode cX5_gain 8 = .ok (.iload_n 2, 1) := by decide +kernel
theorem dX5_gain_9 : decode cX5_gain 9 = .ok (.invokestatic 65, 3) := by decide +kernel
theorem dX5_gain_12 : decode cX5_gain 12 = .ok (.ifCond .ne 7, 3) := by decide +kernel
theorem dX5_gain_15 : decode cX5_gain 15 = .ok (.iconst 1, 1) := by decide +kernel
theorem dX5_gain_16 : decode cX5_gain 16 = .ok (.goto 27, 3) := by decide +kernel
theorem dX5_gain_19 : decode cX5_gain 19 = .ok (.aload_n 0, 1) := by decide +kernel
theorem dX5_gain_20 : decode cX5_gain 20 = .ok (.getfield 29, 3) := by decide +kernel
theorem dX5_gain_23 : decode cX5_gain 23 = .ok (.iload_n 1, 1) := by decide +kernel
theorem dX5_gain_24 : decode cX5_gain 24 = .ok (.iaload, 1) := by decide +kernel
theorem dX5_gain_25 : decode cX5_gain 25 = .ok (.iconst (-1), 1) := by decide +kernel
theorem dX5_gain_26 : decode cX5_gain 26 = .ok (.if_icmp .ne 16, 3) := by decide +kernel
theorem dX5_gain_29 : decode cX5_gain 29 = .ok (.aload_n 0, 1) := by decide +kernel
theorem dX5_gain_30 : decode cX5_gain 30 = .ok (.getfield 32, 3) := by decide +kernel
theorem dX5_gain_33 : decode cX5_gain 33 = .ok (.bipush 12, 2) := by decide +kernel
theorem dX5_gain_35 : decode cX5_gain 35 = .ok (.if_icmp .ne 7, 3) := by decide +kernel
theorem dX5_gain_38 : decode cX5_gain 38 = .ok (.iconst 2, 1) := by decide +kernel
theorem dX5_gain_39 : decode cX5_gain 39 = .ok (.goto 4, 3) := by decide +kernel
theorem dX5_gain_42 : decode cX5_gain 42 = .ok (.iconst 0, 1) := by decide +kernel
theorem dX5_gain_43 : decode cX5_gain 43 = .ok (.putfield 62, 3) := by decide +kernel
theorem dX5_gain_46 : decode cX5_gain 46 = .ok (.aload_n 0, 1) := by decide +kernel
theorem dX5_gain_47 : decode cX5_gain 47 = .ok (.getfield 62, 3) := by decide +kernel
theorem dX5_gain_50 : decode cX5_gain 50 = .ok (.ifCond .ne 34, 3) := by decide +kernel
theorem dX5_gain_53 : decode cX5_gain 53 = .ok (.aload_n 0, 1) := by decide +kernel
theorem dX5_gain_54 : decode cX5_gain 54 = .ok (.dup, 1) := by decide +kernel
theorem dX5_gain_55 : decode cX5_gain 55 = .ok (.getfield 32, 3) := by decide +kernel
theorem dX5_gain_58 : decode cX5_gain 58 = .ok (.aload_n 0, 1) := by decide +kernel
theorem dX5_gain_59 : decode cX5_gain 59 = .ok (.getfield 29, 3) := by decide +kernel
theorem dX5_gain_62 : decode cX5_gain 62 = .ok (.iload_n 1, 1) := by decide +kernel
theorem dX5_gain_63 : decode cX5_gain 63 = .ok (.iaload, 1) := by decide +kernel
theorem dX5_gain_64 : decode cX5_gain 64 = .ok (.iconst (-1), 1) := by decide +kernel
theorem dX5_gain_65 : decode cX5_gain 65 = .ok (.if_icmp .ne 7, 3) := by decide +kernel
theorem dX5_gain_68 : decode cX5_gain 68 = .ok (.iconst 1, 1) := by decide +kernel
theorem dX5_gain_69 : decode cX5_gain 69 = .ok (.goto 4, 3) := by decide +kernel
theorem dX5_gain_72 : decode cX5_gain 72 = .ok (.iconst 0, 1) := by decide +kernel
theorem dX5_gain_73 : decode cX5_gain 73 = .ok (.iadd, 1) := by decide +kernel
theorem dX5_gain_74 : decode cX5_gain 74 = .ok (.putfield 32, 3) := by decide +kernel
theorem dX5_gain_77 : decode cX5_gain 77 = .ok (.aload_n 0, 1) := by decide +kernel
theorem dX5_gain_78 : decode cX5_gain 78 = .ok (.getfield 29, 3) := by decide +kernel
theorem dX5_gain_81 : decode cX5_gain 81 = .ok (.iload_n 1, 1) := by decide +kernel
theorem dX5_gain_82 : decode cX5_gain 82 = .ok (.iload_n 2, 1) := by decide +kernel
theorem dX5_gain_83 : decode cX5_gain 83 = .ok (.iastore, 1) := by decide +kernel
theorem dX5_gain_84 : decode cX5_gain 84 = .ok (.return_, 1) := by decide +kernel
theorem dX5_floorOf_0 : decode cX5_floorOf 0 = .ok (.iload_n 0, 1) := by decide +kernel
theorem dX5_floorOf_1 : decode cX5_floorOf 1 = .ok (.iload_n 1, 1) := by decide +kernel
theorem dX5_floorOf_2 : decode cX5_floorOf 2 = .ok (.idiv, 1) := by decide +kernel
theorem dX5_floorOf_3 : decode cX5_floorOf 3 = .ok (.istore_n 2, 1) := by decide +kernel
theorem dX5_floorOf_4 : decode cX5_floorOf 4 = .ok (.iload_n 0, 1) := by decide +kernel
theorem dX5_floorOf_5 : decode cX5_floorOf 5 = .ok (.iload_n 1, 1) := by decide +kernel
theorem dX5_floorOf_6 : decode cX5_floorOf 6 = .ok (.irem, 1) := by decide +kernel
theorem dX5_floorOf_7 : decode cX5_floorOf 7 = .ok (.ifCond .ge 9, 3) := by decide +kernel
theorem dX5_floorOf_10 : decode cX5_floorOf 10 = .ok (.iload_n 2, 1) := by decide +kernel
theorem dX5_floorOf_11 : decode cX5_floorOf 11 = .ok (.iconst 1, 1) := by decide +kernel
theorem dX5_floorOf_12 : decode cX5_floorOf 12 = .ok (.isub, 1) := by decide +kernel
theorem dX5_floorOf_13 : decode cX5_floorOf 13 = .ok (.goto 4, 3) := by decide +kernel
theorem dX5_floorOf_16 : decode cX5_floorOf 16 = .ok (.iload_n 2, 1) := by decide +kernel
theorem dX5_floorOf_17 : decode cX5_floorOf 17 = .ok (.ireturn, 1) := by decide +kernel
theorem dX5_sameOf_0 : decode cX5_sameOf 0 = .ok (.iload_n 3, 1) := by decide +kernel
theorem dX5_sameOf_1 : decode cX5_sameOf 1 = .ok (.aload_n 0, 1) := by decide +kernel
theorem dX5_sameOf_2 : decode cX5_sameOf 2 = .ok (.getfield 44, 3) := by decide +kernel
theorem dX5_sameOf_5 : decode cX5_sameOf 5 = .ok (.iload_n 1, 1) := by decide +kernel
theorem dX5_sameOf_6 : decode cX5_sameOf 6 = .ok (.iaload, 1) := by decide +kernel
theorem dX5_sameOf_7 : decode cX5_sameOf 7 = .ok (.invokestatic 116, 3) := by decide +kernel
theorem dX5_sameOf_10 : decode cX5_sameOf 10 = .ok (.istore 4, 2) := by decide +kernel
theorem dX5_sameOf_12 : decode cX5_sameOf 12 = .ok (.aload_n 0, 1) := by decide +kernel
theorem dX5_sameOf_13 : decode cX5_sameOf 13 = .ok (.getfield 41, 3) := by decide +kernel
theorem dX5_sameOf_16 : decode cX5_sameOf 16 = .ok (.iload_n 1, 1) := by decide +kernel
theorem dX5_sameOf_17 : decode cX5_sameOf 17 = .ok (.iaload, 1) := by decide +kernel
theorem dX5_sameOf_18 : decode cX5_sameOf 18 = .ok (.aload_n 0, 1) := by decide +kernel
theorem dX5_sameOf_19 : decode cX5_sameOf 19 = .ok (.getfield 44, 3) := by decide +kernel
theorem dX5_sameOf_22 : decode cX5_sameOf 22 = .ok (.iload_n 1, 1) := by decide +kernel
theorem dX5_sameOf_23 : decode cX5_sameOf 23 = .ok (.iaload, 1) := by decide +kernel
theorem dX5_sameOf_24 : decode cX5_sameOf 24 = .ok (.idiv, 1) := by decide +kernel
theorem dX5_sameOf_25 : decode cX5_sameOf 25 = .ok (.istore 5, 2) := by decide +kernel
theorem dX5_sameOf_27 : decode cX5_sameOf 27 = .ok (.iload_n 2, 1) := by decide +kernel
theorem dX5_sameOf_28 : decode cX5_sameOf 28 = .ok (.iload 4, 2) := by decide +kernel
theorem dX5_sameOf_30 : decode cX5_sameOf 30 = .ok (.aload_n 0, 1) := by decide +kernel
theorem dX5_sameOf_31 : decode cX5_sameOf 31 = .ok (.getfield 47, 3) := by decide +kernel
theorem dX5_sameOf_34 : decode cX5_sameOf 34 = .ok (.iload_n 1, 1) := by decide +kernel
theorem dX5_sameOf_35 : decode cX5_sameOf 35 = .ok (.iaload, 1) := by decide +kernel
theorem dX5_sameOf_36 : decode cX5_sameOf 36 = .ok (.imul, 1) := by decide +kernel
theorem dX5_sameOf_37 : decode cX5_sameOf 37 = .ok (.isub, 1) := by decide +kernel
theorem dX5_sameOf_38 : decode cX5_sameOf 38 = .ok (.istore 6, 2) := by decide +kernel
theorem dX5_sameOf_40 : decode cX5_sameOf 40 = .ok (.iload_n 3, 1) := by decide +kernel
theorem dX5_sameOf_41 : decode cX5_sameOf 41 = .ok (.iload 4, 2) := by decide +kernel
theorem dX5_sameOf_43 : decode cX5_sameOf 43 = .ok (.aload_n 0, 1) := by decide +kernel
theorem dX5_sameOf_44 : decode cX5_sameOf 44 = .ok (.getfield 44, 3) := by decide +kernel
theorem dX5_sameOf_47 : decode cX5_sameOf 47 = .ok (.iload_n 1, 1) := by decide +kernel
theorem dX5_sameOf_48 : decode cX5_sameOf 48 = .ok (.iaload, 1) := by decide +kernel
theorem dX5_sameOf_49 : decode cX5_sameOf 49 = .ok (.imul, 1) := by decide +kernel
theorem dX5_sameOf_50 : decode cX5_sameOf 50 = .ok (.isub, 1) := by decide +kernel
theorem dX5_sameOf_51 : decode cX5_sameOf 51 = .ok (.istore 7, 2) := by decide +kernel
theorem dX5_sameOf_53 : decode cX5_sameOf 53 = .ok (.iload 6, 2) := by decide +kernel
theorem dX5_sameOf_55 : decode cX5_sameOf 55 = .ok (.iload 6, 2) := by decide +kernel
theorem dX5_sameOf_57 : decode cX5_sameOf 57 = .ok (.iload 5, 2) := by decide +kernel
theorem dX5_sameOf_59 : decode cX5_sameOf 59 = .ok (.invokestatic 116, 3) := by decide +kernel
theorem dX5_sameOf_62 : decode cX5_sameOf 62 = .ok (.iload 5, 2) := by decide +kernel
theorem dX5_sameOf_64 : decode cX5_sameOf 64 = .ok (.imul, 1) := by decide +kernel
theorem dX5_sameOf_65 : decode cX5_sameOf 65 = .ok (.isub, 1) := by decide +kernel
theorem dX5_sameOf_66 : decode cX5_sameOf 66 = .ok (.iload 5, 2) := by decide +kernel
theorem dX5_sameOf_68 : decode cX5_sameOf 68 = .ok (.iload 7, 2) := by decide +kernel
theorem dX5_sameOf_70 : decode cX5_sameOf 70 = .ok (.imul, 1) := by decide +kernel
theorem dX5_sameOf_71 : decode cX5_sameOf 71 = .ok (.iadd, 1) := by decide +kernel
theorem dX5_sameOf_72 : decode cX5_sameOf 72 = .ok (.ireturn, 1) := by decide +kernel
theorem dX5_size_0 : decode cX5_size 0 = .ok (.iload_n 0, 1) := by decide +kernel
theorem dX5_size_1 : decode cX5_size 1 = .ok (.ifCond .ge 8, 3) := by decide +kernel
theorem dX5_size_4 : decode cX5_size 4 = .ok (.iload_n 0, 1) := by decide +kernel
theorem dX5_size_5 : decode cX5_size 5 = .ok (.ineg, 1) := by decide +kernel
theorem dX5_size_6 : decode cX5_size 6 = .ok (.goto 4, 3) := by decide +kernel
theorem dX5_size_9 : decode cX5_size 9 = .ok (.iload_n 0, 1) := by decide +kernel
theorem dX5_size_10 : decode cX5_size 10 = .ok (.ireturn, 1) := by decide +kernel
theorem dX5_common_0 : decode cX5_common 0 = .ok (.iconst 1, 1) := by decide +kernel
theorem dX5_common_1 : decode cX5_common 1 = .ok (.istore_n 2, 1) := by decide +kernel
theorem dX5_common_2 : decode cX5_common 2 = .ok (.iconst 2, 1) := by decide +kernel
theorem dX5_common_3 : decode cX5_common 3 = .ok (.istore_n 3, 1) := by decide +kernel
theorem dX5_common_4 : decode cX5_common 4 = .ok (.iload_n 3, 1) := by decide +kernel
theorem dX5_common_5 : decode cX5_common 5 = .ok (.bipush 12, 2) := by decide +kernel
theorem dX5_common_7 : decode cX5_common 7 = .ok (.if_icmp .gt 27, 3) := by decide +kernel
theorem dX5_common_10 : decode cX5_common 10 = .ok (.iload_n 0, 1) := by decide +kernel
theorem dX5_common_11 : decode cX5_common 11 = .ok (.iload_n 3, 1) := by decide +kernel
theorem dX5_common_12 : decode cX5_common 12 = .ok (.irem, 1) := by decide +kernel
theorem dX5_common_13 : decode cX5_common 13 = .ok (.ifCond .ne 13, 3) := by decide +kernel
theorem dX5_common_16 : decode cX5_common 16 = .ok (.iload_n 1, 1) := by decide +kernel
theorem dX5_common_17 : decode cX5_common 17 = .ok (.iload_n 3, 1) := by decide +kernel
theorem dX5_common_18 : decode cX5_common 18 = .ok (.irem, 1) := by decide +kernel
theorem dX5_common_19 : decode cX5_common 19 = .ok (.ifCond .ne 7, 3) := by decide +kernel
theorem dX5_common_22 : decode cX5_common 22 = .ok (.iload_n 3, 1) := by decide +kernel
theorem dX5_common_23 : decode cX5_common 23 = .ok (.goto 4, 3) := by decide +kernel
theorem dX5_common_26 : decode cX5_common 26 = .ok (.iload_n 2, 1) := by decide +kernel
theorem dX5_common_27 : decode cX5_common 27 = .ok (.istore_n 2, 1) := by decide +kernel
theorem dX5_common_28 : decode cX5_common 28 = .ok (.iinc 3 1, 3) := by decide +kernel
theorem dX5_common_31 : decode cX5_common 31 = .ok (.goto (-27), 3) := by decide +kernel
theorem dX5_common_34 : decode cX5_common 34 = .ok (.iload_n 2, 1) := by decide +kernel
theorem dX5_common_35 : decode cX5_common 35 = .ok (.ireturn, 1) := by decide +kernel
theorem dX5_shiftOf_0 : decode cX5_shiftOf 0 = .ok (.bipush (-12), 2) := by decide +kernel
theorem dX5_shiftOf_2 : decode cX5_shiftOf 2 = .ok (.istore_n 3, 1) := by decide +kernel
theorem dX5_shiftOf_3 : decode cX5_shiftOf 3 = .ok (.iload_n 3, 1) := by decide +kernel
theorem dX5_shiftOf_4 : decode cX5_shiftOf 4 = .ok (.bipush 12, 2) := by decide +kernel
theorem dX5_shiftOf_6 : decode cX5_shiftOf 6 = .ok (.if_icmp .gt 47, 3) := by decide +kernel
theorem dX5_shiftOf_9 : decode cX5_shiftOf 9 = .ok (.bipush (-12), 2) := by decide +kernel
theorem dX5_shiftOf_11 : decode cX5_shiftOf 11 = .ok (.istore 4, 2) := by decide +kernel
theorem dX5_shiftOf_13 : decode cX5_shiftOf 13 = .ok (.iload 4, 2) := by decide +kernel
theorem dX5_shiftOf_15 : decode cX5_shiftOf 15 = .ok (.bipush 12, 2) := by decide +kernel
theorem dX5_shiftOf_17 : decode cX5_shiftOf 17 = .ok (.if_icmp .gt 30, 3) := by decide +kernel
theorem dX5_shiftOf_20 : decode cX5_shiftOf 20 = .ok (.iload_n 3, 1) := by decide +kernel
theorem dX5_shiftOf_21 : decode cX5_shiftOf 21 = .ok (.iload_n 1, 1) := by decide +kernel
theorem dX5_shiftOf_22 : decode cX5_shiftOf 22 = .ok (.imul, 1) := by decide +kernel
theorem dX5_shiftOf_23 : decode cX5_shiftOf 23 = .ok (.iload 4, 2) := by decide +kernel
theorem dX5_shiftOf_25 : decode cX5_shiftOf 25 = .ok (.iload_n 0, 1) := by decide +kernel
theorem dX5_shiftOf_26 : decode cX5_shiftOf 26 = .ok (.imul, 1) := by decide +kernel
theorem dX5_shiftOf_27 : decode cX5_shiftOf 27 = .ok (.iadd, 1) := by decide +kernel
theorem dX5_shiftOf_28 : decode cX5_shiftOf 28 = .ok (.iload_n 2, 1) := by decide +kernel
theorem dX5_shiftOf_29 : decode cX5_shiftOf 29 = .ok (.if_icmp .ne 12, 3) := by decide +kernel
theorem dX5_shiftOf_32 : decode cX5_shiftOf 32 = .ok (.iload_n 3, 1) := by decide +kernel
theorem dX5_shiftOf_33 : decode cX5_shiftOf 33 = .ok (.iload_n 0, 1) := by decide +kernel
theorem dX5_shiftOf_34 : decode cX5_shiftOf 34 = .ok (.imul, 1) := by decide +kernel
theorem dX5_shiftOf_35 : decode cX5_shiftOf 35 = .ok (.iload 4, 2) := by decide +kernel
theorem dX5_shiftOf_37 : decode cX5_shiftOf 37 = .ok (.iload_n 1, 1) := by decide +kernel
theorem dX5_shiftOf_38 : decode cX5_shiftOf 38 = .ok (.imul, 1) := by decide +kernel
theorem dX5_shiftOf_39 : decode cX5_shiftOf 39 = .ok (.isub, 1) := by decide +kernel
theorem dX5_shiftOf_40 : decode cX5_shiftOf 40 = .ok (.ireturn, 1) := by decide +kernel
theorem dX5_shiftOf_41 : decode cX5_shiftOf 41 = .ok (.iinc 4 1, 3) := by decide +kernel
theorem dX5_shiftOf_44 : decode cX5_shiftOf 44 = .ok (.goto (-31), 3) := by decide +kernel
theorem dX5_shiftOf_47 : decode cX5_shiftOf 47 = .ok (.iinc 3 1, 3) := by decide +kernel
theorem dX5_shiftOf_50 : decode cX5_shiftOf 50 = .ok (.goto (-47), 3) := by decide +kernel
theorem dX5_shiftOf_53 : decode cX5_shiftOf 53 = .ok (.iconst 0, 1) := by decide +kernel
theorem dX5_shiftOf_54 : decode cX5_shiftOf 54 = .ok (.ireturn, 1) := by decide +kernel
theorem dX5_cell_0 : decode cX5_cell 0 = .ok (.aload_n 0, 1) := by decide +kernel
theorem dX5_cell_1 : decode cX5_cell 1 = .ok (.iload_n 1, 1) := by decide +kernel
theorem dX5_cell_2 : decode cX5_cell 2 = .ok (.ifCond .lt 21, 3) := by decide +kernel
theorem dX5_cell_5 : decode cX5_cell 5 = .ok (.iload_n 1, 1) := by decide +kernel
theorem dX5_cell_6 : decode cX5_cell 6 = .ok (.bipush 12, 2) := by decide +kernel
theorem dX5_cell_8 : decode cX5_cell 8 = .ok (.if_icmp .gt 15, 3) := by decide +kernel
theorem dX5_cell_11 : decode cX5_cell 11 = .ok (.iload_n 2, 1) := by decide +kernel
theorem dX5_cell_12 : decode cX5_cell 12 = .ok (.bipush (-12), 2) := by decide +kernel
theorem dX5_cell_14 : decode cX5_cell 14 = .ok (.if_icmp .lt 9, 3) := by decide +kernel
theorem dX5_cell_17 : decode cX5_cell 17 = .ok (.iload_n 2, 1) := by decide +kernel
theorem dX5_cell_18 : decode cX5_cell 18 = .ok (.bipush 12, 2) := by decide +kernel
theorem dX5_cell_20 : decode cX5_cell 20 = .ok (.if_icmp .le 7, 3) := by decide +kernel
theorem dX5_cell_23 : decode cX5_cell 23 = .ok (.iconst 1, 1) := by decide +kernel
theorem dX5_cell_24 : decode cX5_cell 24 = .ok (.goto 29, 3) := by decide +kernel
theorem dX5_cell_27 : decode cX5_cell 27 = .ok (.iload_n 1, 1) := by decide +kernel
theorem dX5_cell_28 : decode cX5_cell 28 = .ok (.ifCond .ne 11, 3) := by decide +kernel
theorem dX5_cell_31 : decode cX5_cell 31 = .ok (.iload_n 2, 1) := by decide +kernel
theorem dX5_cell_32 : decode cX5_cell 32 = .ok (.ifCond .ne 7, 3) := by decide +kernel
theorem dX5_cell_35 : decode cX5_cell 35 = .ok (.iconst 2, 1) := by decide +kernel
theorem dX5_cell_36 : decode cX5_cell 36 = .ok (.goto 17, 3) := by decide +kernel
theorem dX5_cell_39 : decode cX5_cell 39 = .ok (.aload_n 0, 1) := by decide +kernel
theorem dX5_cell_40 : decode cX5_cell 40 = .ok (.getfield 119, 3) := by decide +kernel
theorem dX5_cell_43 : decode cX5_cell 43 = .ok (.bipush 6, 2) := by decide +kernel
theorem dX5_cell_45 : decode cX5_cell 45 = .ok (.if_icmp .ne 7, 3) := by decide +kernel
theorem dX5_cell_48 : decode cX5_cell 48 = .ok (.iconst 3, 1) := by decide +kernel
theorem dX5_cell_49 : decode cX5_cell 49 = .ok (.goto 4, 3) := by decide +kernel
theorem dX5_cell_52 : decode cX5_cell 52 = .ok (.iconst 0, 1) := by decide +kernel
theorem dX5_cell_53 : decode cX5_cell 53 = .ok (.putfield 62, 3) := by decide +kernel
theorem dX5_cell_56 : decode cX5_cell 56 = .ok (.aload_n 0, 1) := by decide +kernel
theorem dX5_cell_57 : decode cX5_cell 57 = .ok (.getfield 62, 3) := by decide +kernel
theorem dX5_cell_60 : decode cX5_cell 60 = .ok (.ifCond .le 5, 3) := by decide +kernel
theorem dX5_cell_63 : decode cX5_cell 63 = .ok (.iconst 0, 1) := by decide +kernel
theorem dX5_cell_64 : decode cX5_cell 64 = .ok (.ireturn, 1) := by decide +kernel
theorem dX5_cell_65 : decode cX5_cell 65 = .ok (.aload_n 0, 1) := by decide +kernel
theorem dX5_cell_66 : decode cX5_cell 66 = .ok (.getfield 119, 3) := by decide +kernel
theorem dX5_cell_69 : decode cX5_cell 69 = .ok (.istore_n 3, 1) := by decide +kernel
theorem dX5_cell_70 : decode cX5_cell 70 = .ok (.aload_n 0, 1) := by decide +kernel
theorem dX5_cell_71 : decode cX5_cell 71 = .ok (.getfield 35, 3) := by decide +kernel
theorem dX5_cell_74 : decode cX5_cell 74 = .ok (.iload_n 3, 1) := by decide +kernel
theorem dX5_cell_75 : decode cX5_cell 75 = .ok (.iload_n 1, 1) := by decide +kernel
theorem dX5_cell_76 : decode cX5_cell 76 = .ok (.iastore, 1) := by decide +kernel
theorem dX5_cell_77 : decode cX5_cell 77 = .ok (.aload_n 0, 1) := by decide +kernel
theorem dX5_cell_78 : decode cX5_cell 78 = .ok (.getfield 38, 3) := by decide +kernel
theorem dX5_cell_81 : decode cX5_cell 81 = .ok (.iload_n 3, 1) := by decide +kernel
theorem dX5_cell_82 : decode cX5_cell 82 = .ok (.iload_n 2, 1) := by decide +kernel
theorem dX5_cell_83 : decode cX5_cell 83 = .ok (.iastore, 1) := by decide +kernel
theorem dX5_cell_84 : decode cX5_cell 84 = .ok (.aload_n 0, 1) := by decide +kernel
theorem dX5_cell_85 : decode cX5_cell 85 = .ok (.getfield 41, 3) := by decide +kernel
theorem dX5_cell_88 : decode cX5_cell 88 = .ok (.iload_n 3, 1) := by decide +kernel
theorem dX5_cell_89 : decode cX5_cell 89 = .ok (.iload_n 1, 1) := by decide +kernel
theorem dX5_cell_90 : decode cX5_cell 90 = .ok (.iload_n 1, 1) := by decide +kernel
theorem dX5_cell_91 : decode cX5_cell 91 = .ok (.imul, 1) := by decide +kernel
theorem dX5_cell_92 : decode cX5_cell 92 = .ok (.iload_n 2, 1) := by decide +kernel
theorem dX5_cell_93 : decode cX5_cell 93 = .ok (.iload_n 2, 1) := by decide +kernel
theorem dX5_cell_94 : decode cX5_cell 94 = .ok (.imul, 1) := by decide +kernel
theorem dX5_cell_95 : decode cX5_cell 95 = .ok (.iadd, 1) := by decide +kernel
theorem dX5_cell_96 : decode cX5_cell 96 = .ok (.iastore, 1) := by decide +kernel
theorem dX5_cell_97 : decode cX5_cell 97 = .ok (.aload_n 0, 1) := by decide +kernel
theorem dX5_cell_98 : decode cX5_cell 98 = .ok (.getfield 44, 3) := by decide +kernel
theorem dX5_cell_101 : decode cX5_cell 101 = .ok (.iload_n 3, 1) := by decide +kernel
theorem dX5_cell_102 : decode cX5_cell 102 = .ok (.iload_n 1, 1) := by decide +kernel
theorem dX5_cell_103 : decode cX5_cell 103 = .ok (.iload_n 2, 1) := by decide +kernel
theorem dX5_cell_104 : decode cX5_cell 104 = .ok (.invokestatic 122, 3) := by decide +kernel
theorem dX5_cell_107 : decode cX5_cell 107 = .ok (.invokestatic 125, 3) := by decide +kernel
theorem dX5_cell_110 : decode cX5_cell 110 = .ok (.iastore, 1) := by decide +kernel
theorem dX5_cell_111 : decode cX5_cell 111 = .ok (.aload_n 0, 1) := by decide +kernel
theorem dX5_cell_112 : decode cX5_cell 112 = .ok (.getfield 47, 3) := by decide +kernel
theorem dX5_cell_115 : decode cX5_cell 115 = .ok (.iload_n 3, 1) := by decide +kernel
theorem dX5_cell_116 : decode cX5_cell 116 = .ok (.iload_n 1, 1) := by decide +kernel
theorem dX5_cell_117 : decode cX5_cell 117 = .ok (.iload_n 2, 1) := by decide +kernel
theorem dX5_cell_118 : decode cX5_cell 118 = .ok (.aload_n 0, 1) := by decide +kernel
theorem dX5_cell_119 : decode cX5_cell 119 = .ok (.getfield 44, 3) := by decide +kernel
end
section
theorem dX5_cell_122 : decode cX5_cell 122 = .ok (.iload_n 3, 1) := by decide +kernel
theorem dX5_cell_123 : decode cX5_cell 123 = .ok (.iaload, 1) := by decide +kernel
theorem dX5_cell_124 : decode cX5_cell 124 = .ok (.invokestatic 128, 3) := by decide +kernel
theorem dX5_cell_127 : decode cX5_cell 127 = .ok (.iastore, 1) := by decide +kernel
theorem dX5_cell_128 : decode cX5_cell 128 = .ok (.aload_n 0, 1) := by decide +kernel
theorem dX5_cell_129 : decode cX5_cell 129 = .ok (.getfield 41, 3) := by decide +kernel
theorem dX5_cell_132 : decode cX5_cell 132 = .ok (.iload_n 3, 1) := by decide +kernel
theorem dX5_cell_133 : decode cX5_cell 133 = .ok (.iaload, 1) := by decide +kernel
theorem dX5_cell_134 : decode cX5_cell 134 = .ok (.istore 4, 2) := by decide +kernel
theorem dX5_cell_136 : decode cX5_cell 136 = .ok (.iconst 0, 1) := by decide +kernel
theorem dX5_cell_137 : decode cX5_cell 137 = .ok (.istore 5, 2) := by decide +kernel
theorem dX5_cell_139 : decode cX5_cell 139 = .ok (.iload 5, 2) := by decide +kernel
theorem dX5_cell_141 : decode cX5_cell 141 = .ok (.iload 4, 2) := by decide +kernel
theorem dX5_cell_143 : decode cX5_cell 143 = .ok (.if_icmp .ge 24, 3) := by decide +kernel
theorem dX5_cell_146 : decode cX5_cell 146 = .ok (.aload_n 0, 1) := by decide +kernel
theorem dX5_cell_147 : decode cX5_cell 147 = .ok (.getfield 50, 3) := by decide +kernel
theorem dX5_cell_150 : decode cX5_cell 150 = .ok (.sipush 300, 3) := by decide +kernel
theorem dX5_cell_153 : decode cX5_cell 153 = .ok (.iload_n 3, 1) := by decide +kernel
theorem dX5_cell_154 : decode cX5_cell 154 = .ok (.imul, 1) := by decide +kernel
theorem dX5_cell_155 : decode cX5_cell 155 = .ok (.iload 5, 2) := by decide +kernel
theorem dX5_cell_157 : decode cX5_cell 157 = .ok (.iadd, 1) := by decide +kernel
theorem dX5_cell_158 : decode cX5_cell 158 = .ok (.iload 4, 2) := by decide +kernel
theorem dX5_cell_160 : decode cX5_cell 160 = .ok (.iastore, 1) := by decide +kernel
theorem dX5_cell_161 : decode cX5_cell 161 = .ok (.iinc 5 1, 3) := by decide +kernel
theorem dX5_cell_164 : decode cX5_cell 164 = .ok (.goto (-25), 3) := by decide +kernel
theorem dX5_cell_167 : decode cX5_cell 167 = .ok (.bipush (-13), 2) := by decide +kernel
theorem dX5_cell_169 : decode cX5_cell 169 = .ok (.istore 5, 2) := by decide +kernel
theorem dX5_cell_171 : decode cX5_cell 171 = .ok (.iload 5, 2) := by decide +kernel
theorem dX5_cell_173 : decode cX5_cell 173 = .ok (.bipush 13, 2) := by decide +kernel
theorem dX5_cell_175 : decode cX5_cell 175 = .ok (.if_icmp .gt 71, 3) := by decide +kernel
theorem dX5_cell_178 : decode cX5_cell 178 = .ok (.bipush (-13), 2) := by decide +kernel
theorem dX5_cell_180 : decode cX5_cell 180 = .ok (.istore 6, 2) := by decide +kernel
theorem dX5_cell_182 : decode cX5_cell 182 = .ok (.iload 6, 2) := by decide +kernel
theorem dX5_cell_184 : decode cX5_cell 184 = .ok (.bipush 13, 2) := by decide +kernel
theorem dX5_cell_186 : decode cX5_cell 186 = .ok (.if_icmp .gt 54, 3) := by decide +kernel
theorem dX5_cell_189 : decode cX5_cell 189 = .ok (.sipush 300, 3) := by decide +kernel
theorem dX5_cell_192 : decode cX5_cell 192 = .ok (.iload_n 3, 1) := by decide +kernel
theorem dX5_cell_193 : decode cX5_cell 193 = .ok (.imul, 1) := by decide +kernel
theorem dX5_cell_194 : decode cX5_cell 194 = .ok (.aload_n 0, 1) := by decide +kernel
theorem dX5_cell_195 : decode cX5_cell 195 = .ok (.iload_n 3, 1) := by decide +kernel
theorem dX5_cell_196 : decode cX5_cell 196 = .ok (.iload 6, 2) := by decide +kernel
theorem dX5_cell_198 : decode cX5_cell 198 = .ok (.iload 5, 2) := by decide +kernel
theorem dX5_cell_200 : decode cX5_cell 200 = .ok (.invokevirtual 131, 3) := by decide +kernel
theorem dX5_cell_203 : decode cX5_cell 203 = .ok (.iadd, 1) := by decide +kernel
theorem dX5_cell_204 : decode cX5_cell 204 = .ok (.istore 7, 2) := by decide +kernel
theorem dX5_cell_206 : decode cX5_cell 206 = .ok (.aload_n 0, 1) := by decide +kernel
theorem dX5_cell_207 : decode cX5_cell 207 = .ok (.getfield 50, 3) := by decide +kernel
theorem dX5_cell_210 : decode cX5_cell 210 = .ok (.iload 7, 2) := by decide +kernel
theorem dX5_cell_212 : decode cX5_cell 212 = .ok (.aload_n 0, 1) := by decide +kernel
theorem dX5_cell_213 : decode cX5_cell 213 = .ok (.getfield 50, 3) := by decide +kernel
theorem dX5_cell_216 : decode cX5_cell 216 = .ok (.iload 7, 2) := by decide +kernel
theorem dX5_cell_218 : decode cX5_cell 218 = .ok (.iaload, 1) := by decide +kernel
theorem dX5_cell_219 : decode cX5_cell 219 = .ok (.iload 6, 2) := by decide +kernel
theorem dX5_cell_221 : decode cX5_cell 221 = .ok (.iload 6, 2) := by decide +kernel
theorem dX5_cell_223 : decode cX5_cell 223 = .ok (.imul, 1) := by decide +kernel
theorem dX5_cell_224 : decode cX5_cell 224 = .ok (.iload 5, 2) := by decide +kernel
theorem dX5_cell_226 : decode cX5_cell 226 = .ok (.iload 5, 2) := by decide +kernel
theorem dX5_cell_228 : decode cX5_cell 228 = .ok (.imul, 1) := by decide +kernel
theorem dX5_cell_229 : decode cX5_cell 229 = .ok (.iadd, 1) := by decide +kernel
theorem dX5_cell_230 : decode cX5_cell 230 = .ok (.invokestatic 76, 3) := by decide +kernel
theorem dX5_cell_233 : decode cX5_cell 233 = .ok (.iastore, 1) := by decide +kernel
theorem dX5_cell_234 : decode cX5_cell 234 = .ok (.iinc 6 1, 3) := by decide +kernel
theorem dX5_cell_237 : decode cX5_cell 237 = .ok (.goto (-55), 3) := by decide +kernel
theorem dX5_cell_240 : decode cX5_cell 240 = .ok (.iinc 5 1, 3) := by decide +kernel
theorem dX5_cell_243 : decode cX5_cell 243 = .ok (.goto (-72), 3) := by decide +kernel
theorem dX5_cell_246 : decode cX5_cell 246 = .ok (.iconst 0, 1) := by decide +kernel
theorem dX5_cell_247 : decode cX5_cell 247 = .ok (.istore 5, 2) := by decide +kernel
theorem dX5_cell_249 : decode cX5_cell 249 = .ok (.iload 5, 2) := by decide +kernel
theorem dX5_cell_251 : decode cX5_cell 251 = .ok (.iload 4, 2) := by decide +kernel
theorem dX5_cell_253 : decode cX5_cell 253 = .ok (.if_icmp .ge 99, 3) := by decide +kernel
theorem dX5_cell_256 : decode cX5_cell 256 = .ok (.iconst 0, 1) := by decide +kernel
theorem dX5_cell_257 : decode cX5_cell 257 = .ok (.istore 6, 2) := by decide +kernel
theorem dX5_cell_259 : decode cX5_cell 259 = .ok (.iconst 0, 1) := by decide +kernel
theorem dX5_cell_260 : decode cX5_cell 260 = .ok (.istore 7, 2) := by decide +kernel
theorem dX5_cell_262 : decode cX5_cell 262 = .ok (.iload 7, 2) := by decide +kernel
theorem dX5_cell_264 : decode cX5_cell 264 = .ok (.iload 4, 2) := by decide +kernel
theorem dX5_cell_266 : decode cX5_cell 266 = .ok (.if_icmp .ge 65, 3) := by decide +kernel
theorem dX5_cell_269 : decode cX5_cell 269 = .ok (.aload_n 0, 1) := by decide +kernel
theorem dX5_cell_270 : decode cX5_cell 270 = .ok (.getfield 50, 3) := by decide +kernel
theorem dX5_cell_273 : decode cX5_cell 273 = .ok (.sipush 300, 3) := by decide +kernel
theorem dX5_cell_276 : decode cX5_cell 276 = .ok (.iload_n 3, 1) := by decide +kernel
theorem dX5_cell_277 : decode cX5_cell 277 = .ok (.imul, 1) := by decide +kernel
theorem dX5_cell_278 : decode cX5_cell 278 = .ok (.iload 7, 2) := by decide +kernel
theorem dX5_cell_280 : decode cX5_cell 280 = .ok (.iadd, 1) := by decide +kernel
theorem dX5_cell_281 : decode cX5_cell 281 = .ok (.iaload, 1) := by decide +kernel
theorem dX5_cell_282 : decode cX5_cell 282 = .ok (.aload_n 0, 1) := by decide +kernel
theorem dX5_cell_283 : decode cX5_cell 283 = .ok (.getfield 50, 3) := by decide +kernel
theorem dX5_cell_286 : decode cX5_cell 286 = .ok (.sipush 300, 3) := by decide +kernel
theorem dX5_cell_289 : decode cX5_cell 289 = .ok (.iload_n 3, 1) := by decide +kernel
theorem dX5_cell_290 : decode cX5_cell 290 = .ok (.imul, 1) := by decide +kernel
theorem dX5_cell_291 : decode cX5_cell 291 = .ok (.iload 5, 2) := by decide +kernel
theorem dX5_cell_293 : decode cX5_cell 293 = .ok (.iadd, 1) := by decide +kernel
theorem dX5_cell_294 : decode cX5_cell 294 = .ok (.iaload, 1) := by decide +kernel
theorem dX5_cell_295 : decode cX5_cell 295 = .ok (.isub, 1) := by decide +kernel
theorem dX5_cell_296 : decode cX5_cell 296 = .ok (.istore 8, 2) := by decide +kernel
theorem dX5_cell_298 : decode cX5_cell 298 = .ok (.iload 6, 2) := by decide +kernel
theorem dX5_cell_300 : decode cX5_cell 300 = .ok (.iload 8, 2) := by decide +kernel
theorem dX5_cell_302 : decode cX5_cell 302 = .ok (.ifCond .lt 15, 3) := by decide +kernel
theorem dX5_cell_305 : decode cX5_cell 305 = .ok (.iload 8, 2) := by decide +kernel
theorem dX5_cell_307 : decode cX5_cell 307 = .ok (.ifCond .ne 14, 3) := by decide +kernel
theorem dX5_cell_310 : decode cX5_cell 310 = .ok (.iload 7, 2) := by decide +kernel
theorem dX5_cell_312 : decode cX5_cell 312 = .ok (.iload 5, 2) := by decide +kernel
theorem dX5_cell_314 : decode cX5_cell 314 = .ok (.if_icmp .ge 7, 3) := by decide +kernel
theorem dX5_cell_317 : decode cX5_cell 317 = .ok (.iconst 1, 1) := by decide +kernel
theorem dX5_cell_318 : decode cX5_cell 318 = .ok (.goto 4, 3) := by decide +kernel
theorem dX5_cell_321 : decode cX5_cell 321 = .ok (.iconst 0, 1) := by decide +kernel
theorem dX5_cell_322 : decode cX5_cell 322 = .ok (.iadd, 1) := by decide +kernel
theorem dX5_cell_323 : decode cX5_cell 323 = .ok (.istore 6, 2) := by decide +kernel
theorem dX5_cell_325 : decode cX5_cell 325 = .ok (.iinc 7 1, 3) := by decide +kernel
theorem dX5_cell_328 : decode cX5_cell 328 = .ok (.goto (-66), 3) := by decide +kernel
theorem dX5_cell_331 : decode cX5_cell 331 = .ok (.aload_n 0, 1) := by decide +kernel
theorem dX5_cell_332 : decode cX5_cell 332 = .ok (.getfield 53, 3) := by decide +kernel
theorem dX5_cell_335 : decode cX5_cell 335 = .ok (.sipush 300, 3) := by decide +kernel
theorem dX5_cell_338 : decode cX5_cell 338 = .ok (.iload_n 3, 1) := by decide +kernel
theorem dX5_cell_339 : decode cX5_cell 339 = .ok (.imul, 1) := by decide +kernel
theorem dX5_cell_340 : decode cX5_cell 340 = .ok (.iload 5, 2) := by decide +kernel
theorem dX5_cell_342 : decode cX5_cell 342 = .ok (.iadd, 1) := by decide +kernel
theorem dX5_cell_343 : decode cX5_cell 343 = .ok (.iload 6, 2) := by decide +kernel
theorem dX5_cell_345 : decode cX5_cell 345 = .ok (.iastore, 1) := by decide +kernel
theorem dX5_cell_346 : decode cX5_cell 346 = .ok (.iinc 5 1, 3) := by decide +kernel
theorem dX5_cell_349 : decode cX5_cell 349 = .ok (.goto (-100), 3) := by decide +kernel
theorem dX5_cell_352 : decode cX5_cell 352 = .ok (.aload_n 0, 1) := by decide +kernel
theorem dX5_cell_353 : decode cX5_cell 353 = .ok (.dup, 1) := by decide +kernel
theorem dX5_cell_354 : decode cX5_cell 354 = .ok (.getfield 119, 3) := by decide +kernel
theorem dX5_cell_357 : decode cX5_cell 357 = .ok (.iconst 1, 1) := by decide +kernel
theorem dX5_cell_358 : decode cX5_cell 358 = .ok (.iadd, 1) := by decide +kernel
theorem dX5_cell_359 : decode cX5_cell 359 = .ok (.putfield 119, 3) := by decide +kernel
theorem dX5_cell_362 : decode cX5_cell 362 = .ok (.iload_n 3, 1) := by decide +kernel
theorem dX5_cell_363 : decode cX5_cell 363 = .ok (.ireturn, 1) := by decide +kernel
theorem dX5_isCell_0 : decode cX5_isCell 0 = .ok (.iload_n 1, 1) := by decide +kernel
theorem dX5_isCell_1 : decode cX5_isCell 1 = .ok (.ifCond .lt 15, 3) := by decide +kernel
theorem dX5_isCell_4 : decode cX5_isCell 4 = .ok (.iload_n 1, 1) := by decide +kernel
theorem dX5_isCell_5 : decode cX5_isCell 5 = .ok (.aload_n 0, 1) := by decide +kernel
theorem dX5_isCell_6 : decode cX5_isCell 6 = .ok (.getfield 119, 3) := by decide +kernel
theorem dX5_isCell_9 : decode cX5_isCell 9 = .ok (.if_icmp .ge 7, 3) := by decide +kernel
theorem dX5_isCell_12 : decode cX5_isCell 12 = .ok (.iconst 1, 1) := by decide +kernel
theorem dX5_isCell_13 : decode cX5_isCell 13 = .ok (.goto 4, 3) := by decide +kernel
theorem dX5_isCell_16 : decode cX5_isCell 16 = .ok (.iconst 0, 1) := by decide +kernel
theorem dX5_isCell_17 : decode cX5_isCell 17 = .ok (.ireturn, 1) := by decide +kernel
theorem dX5_rank_0 : decode cX5_rank 0 = .ok (.aload_n 0, 1) := by decide +kernel
theorem dX5_rank_1 : decode cX5_rank 1 = .ok (.aload_n 0, 1) := by decide +kernel
theorem dX5_rank_2 : decode cX5_rank 2 = .ok (.iload_n 1, 1) := by decide +kernel
theorem dX5_rank_3 : decode cX5_rank 3 = .ok (.invokevirtual 134, 3) := by decide +kernel
theorem dX5_rank_6 : decode cX5_rank 6 = .ok (.ifCond .eq 22, 3) := by decide +kernel
theorem dX5_rank_9 : decode cX5_rank 9 = .ok (.iload_n 2, 1) := by decide +kernel
theorem dX5_rank_10 : decode cX5_rank 10 = .ok (.iconst (-1), 1) := by decide +kernel
theorem dX5_rank_11 : decode cX5_rank 11 = .ok (.if_icmp .lt 17, 3) := by decide +kernel
theorem dX5_rank_14 : decode cX5_rank 14 = .ok (.iload_n 2, 1) := by decide +kernel
theorem dX5_rank_15 : decode cX5_rank 15 = .ok (.aload_n 0, 1) := by decide +kernel
theorem dX5_rank_16 : decode cX5_rank 16 = .ok (.getfield 41, 3) := by decide +kernel
theorem dX5_rank_19 : decode cX5_rank 19 = .ok (.iload_n 1, 1) := by decide +kernel
theorem dX5_rank_20 : decode cX5_rank 20 = .ok (.iaload, 1) := by decide +kernel
theorem dX5_rank_21 : decode cX5_rank 21 = .ok (.if_icmp .ge 7, 3) := by decide +kernel
theorem dX5_rank_24 : decode cX5_rank 24 = .ok (.iconst 0, 1) := by decide +kernel
theorem dX5_rank_25 : decode cX5_rank 25 = .ok (.goto 4, 3) := by decide +kernel
theorem dX5_rank_28 : decode cX5_rank 28 = .ok (.iconst 1, 1) := by decide +kernel
theorem dX5_rank_29 : decode cX5_rank 29 = .ok (.putfield 62, 3) := by decide +kernel
theorem dX5_rank_32 : decode cX5_rank 32 = .ok (.aload_n 0, 1) := by decide +kernel
theorem dX5_rank_33 : decode cX5_rank 33 = .ok (.getfield 62, 3) := by decide +kernel
theorem dX5_rank_36 : decode cX5_rank 36 = .ok (.ifCond .le 7, 3) := by decide +kernel
theorem dX5_rank_39 : decode cX5_rank 39 = .ok (.iconst 0, 1) := by decide +kernel
theorem dX5_rank_40 : decode cX5_rank 40 = .ok (.goto 29, 3) := by decide +kernel
theorem dX5_rank_43 : decode cX5_rank 43 = .ok (.iload_n 2, 1) := by decide +kernel
theorem dX5_rank_44 : decode cX5_rank 44 = .ok (.iconst (-1), 1) := by decide +kernel
theorem dX5_rank_45 : decode cX5_rank 45 = .ok (.if_icmp .ne 12, 3) := by decide +kernel
theorem dX5_rank_48 : decode cX5_rank 48 = .ok (.aload_n 0, 1) := by decide +kernel
theorem dX5_rank_49 : decode cX5_rank 49 = .ok (.getfield 41, 3) := by decide +kernel
theorem dX5_rank_52 : decode cX5_rank 52 = .ok (.iload_n 1, 1) := by decide +kernel
theorem dX5_rank_53 : decode cX5_rank 53 = .ok (.iaload, 1) := by decide +kernel
theorem dX5_rank_54 : decode cX5_rank 54 = .ok (.goto 15, 3) := by decide +kernel
theorem dX5_rank_57 : decode cX5_rank 57 = .ok (.aload_n 0, 1) := by decide +kernel
theorem dX5_rank_58 : decode cX5_rank 58 = .ok (.getfield 53, 3) := by decide +kernel
theorem dX5_rank_61 : decode cX5_rank 61 = .ok (.sipush 300, 3) := by decide +kernel
theorem dX5_rank_64 : decode cX5_rank 64 = .ok (.iload_n 1, 1) := by decide +kernel
theorem dX5_rank_65 : decode cX5_rank 65 = .ok (.imul, 1) := by decide +kernel
theorem dX5_rank_66 : decode cX5_rank 66 = .ok (.iload_n 2, 1) := by decide +kernel
theorem dX5_rank_67 : decode cX5_rank 67 = .ok (.iadd, 1) := by decide +kernel
theorem dX5_rank_68 : decode cX5_rank 68 = .ok (.iaload, 1) := by decide +kernel
theorem dX5_rank_69 : decode cX5_rank 69 = .ok (.ireturn, 1) := by decide +kernel
theorem dX5_isNear_0 : decode cX5_isNear 0 = .ok (.iload_n 0, 1) := by decide +kernel
theorem dX5_isNear_1 : decode cX5_isNear 1 = .ok (.ldc 137, 2) := by decide +kernel
theorem dX5_isNear_3 : decode cX5_isNear 3 = .ok (.if_icmp .lt 13, 3) := by decide +kernel
theorem dX5_isNear_6 : decode cX5_isNear 6 = .ok (.iload_n 0, 1) := by decide +kernel
theorem dX5_isNear_7 : decode cX5_isNear 7 = .ok (.ldc 138, 2) := by decide +kernel
theorem dX5_isNear_9 : decode cX5_isNear 9 = .ok (.if_icmp .gt 7, 3) := by decide +kernel
theorem dX5_isNear_12 : decode cX5_isNear 12 = .ok (.iconst 1, 1) := by decide +kernel
theorem dX5_isNear_13 : decode cX5_isNear 13 = .ok (.goto 4, 3) := by decide +kernel
theorem dX5_isNear_16 : decode cX5_isNear 16 = .ok (.iconst 0, 1) := by decide +kernel
theorem dX5_isNear_17 : decode cX5_isNear 17 = .ok (.ireturn, 1) := by decide +kernel
theorem dX5_same_0 : decode cX5_same 0 = .ok (.aload_n 0, 1) := by decide +kernel
theorem dX5_same_1 : decode cX5_same 1 = .ok (.aload_n 0, 1) := by decide +kernel
theorem dX5_same_2 : decode cX5_same 2 = .ok (.iload_n 1, 1) := by decide +kernel
theorem dX5_same_3 : decode cX5_same 3 = .ok (.invokevirtual 134, 3) := by decide +kernel
theorem dX5_same_6 : decode cX5_same 6 = .ok (.ifCond .ne 7, 3) := by decide +kernel
theorem dX5_same_9 : decode cX5_same 9 = .ok (.iconst 1, 1) := by decide +kernel
theorem dX5_same_10 : decode cX5_same 10 = .ok (.goto 22, 3) := by decide +kernel
theorem dX5_same_13 : decode cX5_same 13 = .ok (.iload_n 2, 1) := by decide +kernel
theorem dX5_same_14 : decode cX5_same 14 = .ok (.invokestatic 139, 3) := by decide +kernel
theorem dX5_same_17 : decode cX5_same 17 = .ok (.ifCond .eq 10, 3) := by decide +kernel
theorem dX5_same_20 : decode cX5_same 20 = .ok (.iload_n 3, 1) := by decide +kernel
theorem dX5_same_21 : decode cX5_same 21 = .ok (.invokestatic 139, 3) := by decide +kernel
theorem dX5_same_24 : decode cX5_same 24 = .ok (.ifCond .ne 7, 3) := by decide +kernel
theorem dX5_same_27 : decode cX5_same 27 = .ok (.iconst 2, 1) := by decide +kernel
theorem dX5_same_28 : decode cX5_same 28 = .ok (.goto 4, 3) := by decide +kernel
theorem dX5_same_31 : decode cX5_same 31 = .ok (.iconst 0, 1) := by decide +kernel
theorem dX5_same_32 : decode cX5_same 32 = .ok (.putfield 62, 3) := by decide +kernel
theorem dX5_same_35 : decode cX5_same 35 = .ok (.aload_n 0, 1) := by decide +kernel
theorem dX5_same_36 : decode cX5_same 36 = .ok (.getfield 62, 3) := by decide +kernel
theorem dX5_same_39 : decode cX5_same 39 = .ok (.ifCond .le 7, 3) := by decide +kernel
theorem dX5_same_42 : decode cX5_same 42 = .ok (.iconst 0, 1) := by decide +kernel
theorem dX5_same_43 : decode cX5_same 43 = .ok (.goto 10, 3) := by decide +kernel
theorem dX5_same_46 : decode cX5_same 46 = .ok (.aload_n 0, 1) := by decide +kernel
theorem dX5_same_47 : decode cX5_same 47 = .ok (.iload_n 1, 1) := by decide +kernel
theorem dX5_same_48 : decode cX5_same 48 = .ok (.iload_n 2, 1) := by decide +kernel
theorem dX5_same_49 : decode cX5_same 49 = .ok (.iload_n 3, 1) := by decide +kernel
theorem dX5_same_50 : decode cX5_same 50 = .ok (.invokevirtual 131, 3) := by decide +kernel
theorem dX5_same_53 : decode cX5_same 53 = .ok (.ireturn, 1) := by decide +kernel
theorem dX5_prints_0 : decode cX5_prints 0 = .ok (.aload_n 0, 1) := by decide +kernel
theorem dX5_prints_1 : decode cX5_prints 1 = .ok (.aload_n 0, 1) := by decide +kernel
theorem dX5_prints_2 : decode cX5_prints 2 = .ok (.iload_n 1, 1) := by decide +kernel
theorem dX5_prints_3 : decode cX5_prints 3 = .ok (.invokevirtual 134, 3) := by decide +kernel
theorem dX5_prints_6 : decode cX5_prints 6 = .ok (.ifCond .eq 25, 3) := by decide +kernel
theorem dX5_prints_9 : decode cX5_prints 9 = .ok (.aload_n 0, 1) := by decide +kernel
theorem dX5_prints_10 : decode cX5_prints 10 = .ok (.iload_n 2, 1) := by decide +kernel
theorem dX5_prints_11 : decode cX5_prints 11 = .ok (.invokevirtual 69, 3) := by decide +kernel
theorem dX5_prints_14 : decode cX5_prints 14 = .ok (.ifCond .eq 17, 3) := by decide +kernel
theorem dX5_prints_17 : decode cX5_prints 17 = .ok (.aload_n 0, 1) := by decide +kernel
theorem dX5_prints_18 : decode cX5_prints 18 = .ok (.iload_n 3, 1) := by decide +kernel
theorem dX5_prints_19 : decode cX5_prints 19 = .ok (.iload 4, 2) := by decide +kernel
theorem dX5_prints_21 : decode cX5_prints 21 = .ok (.invokevirtual 106, 3) := by decide +kernel
theorem dX5_prints_24 : decode cX5_prints 24 = .ok (.ifCond .eq 7, 3) := by decide +kernel
theorem dX5_prints_27 : decode cX5_prints 27 = .ok (.iconst 0, 1) := by decide +kernel
theorem dX5_prints_28 : decode cX5_prints 28 = .ok (.goto 4, 3) := by decide +kernel
theorem dX5_prints_31 : decode cX5_prints 31 = .ok (.iconst 1, 1) := by decide +kernel
theorem dX5_prints_32 : decode cX5_prints 32 = .ok (.putfield 62, 3) := by decide +kernel
theorem dX5_prints_35 : decode cX5_prints 35 = .ok (.aload_n 0, 1) := by decide +kernel
theorem dX5_prints_36 : decode cX5_prints 36 = .ok (.getfield 62, 3) := by decide +kernel
theorem dX5_prints_39 : decode cX5_prints 39 = .ok (.ifCond .ne 55, 3) := by decide +kernel
theorem dX5_prints_42 : decode cX5_prints 42 = .ok (.aload_n 0, 1) := by decide +kernel
theorem dX5_prints_43 : decode cX5_prints 43 = .ok (.getfield 53, 3) := by decide +kernel
theorem dX5_prints_46 : decode cX5_prints 46 = .ok (.sipush 300, 3) := by decide +kernel
theorem dX5_prints_49 : decode cX5_prints 49 = .ok (.iload_n 1, 1) := by decide +kernel
theorem dX5_prints_50 : decode cX5_prints 50 = .ok (.imul, 1) := by decide +kernel
theorem dX5_prints_51 : decode cX5_prints 51 = .ok (.aload_n 0, 1) := by decide +kernel
theorem dX5_prints_52 : decode cX5_prints 52 = .ok (.iload_n 1, 1) := by decide +kernel
theorem dX5_prints_53 : decode cX5_prints 53 = .ok (.iload_n 3, 1) := by decide +kernel
theorem dX5_prints_54 : decode cX5_prints 54 = .ok (.iload 4, 2) := by decide +kernel
theorem dX5_prints_56 : decode cX5_prints 56 = .ok (.invokevirtual 131, 3) := by decide +kernel
theorem dX5_prints_59 : decode cX5_prints 59 = .ok (.iadd, 1) := by decide +kernel
theorem dX5_prints_60 : decode cX5_prints 60 = .ok (.iaload, 1) := by decide +kernel
theorem dX5_prints_61 : decode cX5_prints 61 = .ok (.aload_n 0, 1) := by decide +kernel
theorem dX5_prints_62 : decode cX5_prints 62 = .ok (.aload_n 0, 1) := by decide +kernel
theorem dX5_prints_63 : decode cX5_prints 63 = .ok (.iload_n 3, 1) := by decide +kernel
theorem dX5_prints_64 : decode cX5_prints 64 = .ok (.iload 4, 2) := by decide +kernel
theorem dX5_prints_66 : decode cX5_prints 66 = .ok (.iload_n 2, 1) := by decide +kernel
theorem dX5_prints_67 : decode cX5_prints 67 = .ok (.invokevirtual 87, 3) := by decide +kernel
theorem dX5_prints_70 : decode cX5_prints 70 = .ok (.invokevirtual 113, 3) := by decide +kernel
theorem dX5_prints_73 : decode cX5_prints 73 = .ok (.aload_n 0, 1) := by decide +kernel
theorem dX5_prints_74 : decode cX5_prints 74 = .ok (.getfield 41, 3) := by decide +kernel
theorem dX5_prints_77 : decode cX5_prints 77 = .ok (.iload_n 1, 1) := by decide +kernel
theorem dX5_prints_78 : decode cX5_prints 78 = .ok (.iaload, 1) := by decide +kernel
theorem dX5_prints_79 : decode cX5_prints 79 = .ok (.imul, 1) := by decide +kernel
theorem dX5_prints_80 : decode cX5_prints 80 = .ok (.bipush 127, 2) := by decide +kernel
theorem dX5_prints_82 : decode cX5_prints 82 = .ok (.iadd, 1) := by decide +kernel
theorem dX5_prints_83 : decode cX5_prints 83 = .ok (.sipush 255, 3) := by decide +kernel
theorem dX5_prints_86 : decode cX5_prints 86 = .ok (.idiv, 1) := by decide +kernel
theorem dX5_prints_87 : decode cX5_prints 87 = .ok (.if_icmp .ge 7, 3) := by decide +kernel
theorem dX5_prints_90 : decode cX5_prints 90 = .ok (.iconst 1, 1) := by decide +kernel
theorem dX5_prints_91 : decode cX5_prints 91 = .ok (.goto 4, 3) := by decide +kernel
theorem dX5_prints_94 : decode cX5_prints 94 = .ok (.iconst 0, 1) := by decide +kernel
theorem dX5_prints_95 : decode cX5_prints 95 = .ok (.ireturn, 1) := by decide +kernel
theorem dX5_covered_0 : decode cX5_covered 0 = .ok (.aload_n 0, 1) := by decide +kernel
theorem dX5_covered_1 : decode cX5_covered 1 = .ok (.aload_n 0, 1) := by decide +kernel
theorem dX5_covered_2 : decode cX5_covered 2 = .ok (.iload_n 1, 1) := by decide +kernel
theorem dX5_covered_3 : decode cX5_covered 3 = .ok (.invokevirtual 69, 3) := by decide +kernel
theorem dX5_covered_6 : decode cX5_covered 6 = .ok (.ifCond .eq 7, 3) := by decide +kernel
theorem dX5_covered_9 : decode cX5_covered 9 = .ok (.iconst 0, 1) := by decide +kernel
theorem dX5_covered_10 : decode cX5_covered 10 = .ok (.goto 4, 3) := by decide +kernel
theorem dX5_covered_13 : decode cX5_covered 13 = .ok (.iconst 1, 1) := by decide +kernel
theorem dX5_covered_14 : decode cX5_covered 14 = .ok (.putfield 62, 3) := by decide +kernel
theorem dX5_covered_17 : decode cX5_covered 17 = .ok (.lconst 0, 1) := by decide +kernel
theorem dX5_covered_18 : decode cX5_covered 18 = .ok (.lstore_n 2, 1) := by decide +kernel
theorem dX5_covered_19 : decode cX5_covered 19 = .ok (.iconst 0, 1) := by decide +kernel
theorem dX5_covered_20 : decode cX5_covered 20 = .ok (.istore 4, 2) := by decide +kernel
theorem dX5_covered_22 : decode cX5_covered 22 = .ok (.iload 4, 2) := by decide +kernel
theorem dX5_covered_24 : decode cX5_covered 24 = .ok (.aload_n 0, 1) := by decide +kernel
theorem dX5_covered_25 : decode cX5_covered 25 = .ok (.getfield 59, 3) := by decide +kernel
theorem dX5_covered_28 : decode cX5_covered 28 = .ok (.if_icmp .ge 47, 3) := by decide +kernel
theorem dX5_covered_31 : decode cX5_covered 31 = .ok (.aload_n 0, 1) := by decide +kernel
theorem dX5_covered_32 : decode cX5_covered 32 = .ok (.getfield 62, 3) := by decide +kernel
theorem dX5_covered_35 : decode cX5_covered 35 = .ok (.ifCond .ne 40, 3) := by decide +kernel
theorem dX5_covered_38 : decode cX5_covered 38 = .ok (.iconst 0, 1) := by decide +kernel
theorem dX5_covered_39 : decode cX5_covered 39 = .ok (.istore 5, 2) := by decide +kernel
theorem dX5_covered_41 : decode cX5_covered 41 = .ok (.iload 5, 2) := by decide +kernel
theorem dX5_covered_43 : decode cX5_covered 43 = .ok (.aload_n 0, 1) := by decide +kernel
theorem dX5_covered_44 : decode cX5_covered 44 = .ok (.getfield 56, 3) := by decide +kernel
theorem dX5_covered_47 : decode cX5_covered 47 = .ok (.if_icmp .ge 22, 3) := by decide +kernel
theorem dX5_covered_50 : decode cX5_covered 50 = .ok (.lload_n 2, 1) := by decide +kernel
theorem dX5_covered_51 : decode cX5_covered 51 = .ok (.aload_n 0, 1) := by decide +kernel
theorem dX5_covered_52 : decode cX5_covered 52 = .ok (.iload 5, 2) := by decide +kernel
theorem dX5_covered_54 : decode cX5_covered 54 = .ok (.iload 4, 2) := by decide +kernel
theorem dX5_covered_56 : decode cX5_covered 56 = .ok (.iload_n 1, 1) := by decide +kernel
theorem dX5_covered_57 : decode cX5_covered 57 = .ok (.invokevirtual 87, 3) := by decide +kernel
theorem dX5_covered_60 : decode cX5_covered 60 = .ok (.i2l, 1) := by decide +kernel
theorem dX5_covered_61 : decode cX5_covered 61 = .ok (.ladd, 1) := by decide +kernel
theorem dX5_covered_62 : decode cX5_covered 62 = .ok (.lstore_n 2, 1) := by decide +kernel
theorem dX5_covered_63 : decode cX5_covered 63 = .ok (.iinc 5 1, 3) := by decide +kernel
theorem dX5_covered_66 : decode cX5_covered 66 = .ok (.goto (-25), 3) := by decide +kernel
theorem dX5_covered_69 : decode cX5_covered 69 = .ok (.iinc 4 1, 3) := by decide +kernel
theorem dX5_covered_72 : decode cX5_covered 72 = .ok (.goto (-50), 3) := by decide +kernel
theorem dX5_covered_75 : decode cX5_covered 75 = .ok (.lload_n 2, 1) := by decide +kernel
theorem dX5_covered_76 : decode cX5_covered 76 = .ok (.lreturn, 1) := by decide +kernel
theorem dX5_begins_0 : decode cX5_begins 0 = .ok (.iload_n 1, 1) := by decide +kernel
theorem dX5_begins_1 : decode cX5_begins 1 = .ok (.ifCond .eq 22, 3) := by decide +kernel
theorem dX5_begins_4 : decode cX5_begins 4 = .ok (.aload_n 0, 1) := by decide +kernel
theorem dX5_begins_5 : decode cX5_begins 5 = .ok (.iload_n 1, 1) := by decide +kernel
theorem dX5_begins_6 : decode cX5_begins 6 = .ok (.iload_n 2, 1) := by decide +kernel
theorem dX5_begins_7 : decode cX5_begins 7 = .ok (.iload_n 3, 1) := by decide +kernel
theorem dX5_begins_8 : decode cX5_begins 8 = .ok (.invokevirtual 87, 3) := by decide +kernel
theorem dX5_begins_11 : decode cX5_begins 11 = .ok (.aload_n 0, 1) := by decide +kernel
theorem dX5_begins_12 : decode cX5_begins 12 = .ok (.iload_n 1, 1) := by decide +kernel
theorem dX5_begins_13 : decode cX5_begins 13 = .ok (.iconst 1, 1) := by decide +kernel
theorem dX5_begins_14 : decode cX5_begins 14 = .ok (.isub, 1) := by decide +kernel
theorem dX5_begins_15 : decode cX5_begins 15 = .ok (.iload_n 2, 1) := by decide +kernel
theorem dX5_begins_16 : decode cX5_begins 16 = .ok (.iload_n 3, 1) := by decide +kernel
theorem dX5_begins_17 : decode cX5_begins 17 = .ok (.invokevirtual 87, 3) := by decide +kernel
theorem dX5_begins_20 : decode cX5_begins 20 = .ok (.if_icmp .eq 7, 3) := by decide +kernel
theorem dX5_begins_23 : decode cX5_begins 23 = .ok (.iconst 1, 1) := by decide +kernel
theorem dX5_begins_24 : decode cX5_begins 24 = .ok (.goto 4, 3) := by decide +kernel
theorem dX5_begins_27 : decode cX5_begins 27 = .ok (.iconst 0, 1) := by decide +kernel
theorem dX5_begins_28 : decode cX5_begins 28 = .ok (.ireturn, 1) := by decide +kernel
theorem dX5_runsOf_0 : decode cX5_runsOf 0 = .ok (.iconst 0, 1) := by decide +kernel
theorem dX5_runsOf_1 : decode cX5_runsOf 1 = .ok (.istore_n 2, 1) := by decide +kernel
theorem dX5_runsOf_2 : decode cX5_runsOf 2 = .ok (.iconst 0, 1) := by decide +kernel
theorem dX5_runsOf_3 : decode cX5_runsOf 3 = .ok (.istore_n 3, 1) := by decide +kernel
theorem dX5_runsOf_4 : decode cX5_runsOf 4 = .ok (.iload_n 3, 1) := by decide +kernel
theorem dX5_runsOf_5 : decode cX5_runsOf 5 = .ok (.aload_n 0, 1) := by decide +kernel
theorem dX5_runsOf_6 : decode cX5_runsOf 6 = .ok (.getfield 59, 3) := by decide +kernel
theorem dX5_runsOf_9 : decode cX5_runsOf 9 = .ok (.if_icmp .ge 46, 3) := by decide +kernel
theorem dX5_runsOf_12 : decode cX5_runsOf 12 = .ok (.iconst 0, 1) := by decide +kernel
theorem dX5_runsOf_13 : decode cX5_runsOf 13 = .ok (.istore 4, 2) := by decide +kernel
theorem dX5_runsOf_15 : decode cX5_runsOf 15 = .ok (.iload 4, 2) := by decide +kernel
theorem dX5_runsOf_17 : decode cX5_runsOf 17 = .ok (.aload_n 0, 1) := by decide +kernel
theorem dX5_runsOf_18 : decode cX5_runsOf 18 = .ok (.getfield 56, 3) := by decide +kernel
theorem dX5_runsOf_21 : decode cX5_runsOf 21 = .ok (.if_icmp .ge 28, 3) := by decide +kernel
theorem dX5_runsOf_24 : decode cX5_runsOf 24 = .ok (.iload_n 2, 1) := by decide +kernel
theorem dX5_runsOf_25 : decode cX5_runsOf 25 = .ok (.aload_n 0, 1) := by decide +kernel
theorem dX5_runsOf_26 : decode cX5_runsOf 26 = .ok (.iload 4, 2) := by decide +kernel
theorem dX5_runsOf_28 : decode cX5_runsOf 28 = .ok (.iload_n 3, 1) := by decide +kernel
theorem dX5_runsOf_29 : decode cX5_runsOf 29 = .ok (.iload_n 1, 1) := by decide +kernel
theorem dX5_runsOf_30 : decode cX5_runsOf 30 = .ok (.invokevirtual 142, 3) := by decide +kernel
theorem dX5_runsOf_33 : decode cX5_runsOf 33 = .ok (.ifCond .eq 7, 3) := by decide +kernel
theorem dX5_runsOf_36 : decode cX5_runsOf 36 = .ok (.iconst 1, 1) := by decide +kernel
theorem dX5_runsOf_37 : decode cX5_runsOf 37 = .ok (.goto 4, 3) := by decide +kernel
theorem dX5_runsOf_40 : decode cX5_runsOf 40 = .ok (.iconst 0, 1) := by decide +kernel
theorem dX5_runsOf_41 : decode cX5_runsOf 41 = .ok (.iadd, 1) := by decide +kernel
theorem dX5_runsOf_42 : decode cX5_runsOf 42 = .ok (.istore_n 2, 1) := by decide +kernel
theorem dX5_runsOf_43 : decode cX5_runsOf 43 = .ok (.iinc 4 1, 3) := by decide +kernel
theorem dX5_runsOf_46 : decode cX5_runsOf 46 = .ok (.goto (-31), 3) := by decide +kernel
theorem dX5_runsOf_49 : decode cX5_runsOf 49 = .ok (.iinc 3 1, 3) := by decide +kernel
theorem dX5_runsOf_52 : decode cX5_runsOf 52 = .ok (.goto (-48), 3) := by decide +kernel
theorem dX5_runsOf_55 : decode cX5_runsOf 55 = .ok (.iload_n 2, 1) := by decide +kernel
theorem dX5_runsOf_56 : decode cX5_runsOf 56 = .ok (.ireturn, 1) := by decide +kernel
theorem dX5_packed_0 : decode cX5_packed 0 = .ok (.aload_n 0, 1) := by decide +kernel
theorem dX5_packed_1 : decode cX5_packed 1 = .ok (.aload_n 0, 1) := by decide +kernel
theorem dX5_packed_2 : decode cX5_packed 2 = .ok (.iload_n 1, 1) := by decide +kernel
theorem dX5_packed_3 : decode cX5_packed 3 = .ok (.invokevirtual 69, 3) := by decide +kernel
theorem dX5_packed_6 : decode cX5_packed 6 = .ok (.ifCond .eq 23, 3) := by decide +kernel
theorem dX5_packed_9 : decode cX5_packed 9 = .ok (.iload_n 2, 1) := by decide +kernel
theorem dX5_packed_10 : decode cX5_packed 10 = .ok (.iconst (-1), 1) := by decide +kernel
theorem dX5_packed_11 : decode cX5_packed 11 = .ok (.if_icmp .lt 18, 3) := by decide +kernel
theorem dX5_packed_14 : decode cX5_packed 14 = .ok (.iload_n 2, 1) := by decide +kernel
theorem dX5_packed_15 : decode cX5_packed 15 = .ok (.iconst 2, 1) := by decide +kernel
theorem dX5_packed_16 : decode cX5_packed 16 = .ok (.aload_n 0, 1) := by decide +kernel
theorem dX5_packed_17 : decode cX5_packed 17 = .ok (.iload_n 1, 1) := by decide +kernel
theorem dX5_packed_18 : decode cX5_packed 18 = .ok (.invokevirtual 146, 3) := by decide +kernel
theorem dX5_packed_21 : decode cX5_packed 21 = .ok (.imul, 1) := by decide +kernel
theorem dX5_packed_22 : decode cX5_packed 22 = .ok (.if_icmp .ge 7, 3) := by decide +kernel
theorem dX5_packed_25 : decode cX5_packed 25 = .ok (.iconst 0, 1) := by decide +kernel
theorem dX5_packed_26 : decode cX5_packed 26 = .ok (.goto 4, 3) := by decide +kernel
theorem dX5_packed_29 : decode cX5_packed 29 = .ok (.iconst 1, 1) := by decide +kernel
theorem dX5_packed_30 : decode cX5_packed 30 = .ok (.putfield 62, 3) := by decide +kernel
theorem dX5_packed_33 : decode cX5_packed 33 = .ok (.aload_n 0, 1) := by decide +kernel
theorem dX5_packed_34 : decode cX5_packed 34 = .ok (.getfield 62, 3) := by decide +kernel
theorem dX5_packed_37 : decode cX5_packed 37 = .ok (.ifCond .gt 8, 3) := by decide +kernel
theorem dX5_packed_40 : decode cX5_packed 40 = .ok (.iload_n 2, 1) := by decide +kernel
theorem dX5_packed_41 : decode cX5_packed 41 = .ok (.iconst (-1), 1) := by decide +kernel
theorem dX5_packed_42 : decode cX5_packed 42 = .ok (.if_icmp .ne 22, 3) := by decide +kernel
theorem dX5_packed_45 : decode cX5_packed 45 = .ok (.aload_n 0, 1) := by decide +kernel
theorem dX5_packed_46 : decode cX5_packed 46 = .ok (.getfield 62, 3) := by decide +kernel
theorem dX5_packed_49 : decode cX5_packed 49 = .ok (.ifCond .le 7, 3) := by decide +kernel
theorem dX5_packed_52 : decode cX5_packed 52 = .ok (.iconst 0, 1) := by decide +kernel
theorem dX5_packed_53 : decode cX5_packed 53 = .ok (.goto 10, 3) := by decide +kernel
theorem dX5_packed_56 : decode cX5_packed 56 = .ok (.iconst 2, 1) := by decide +kernel
theorem dX5_packed_57 : decode cX5_packed 57 = .ok (.aload_n 0, 1) := by decide +kernel
theorem dX5_packed_58 : decode cX5_packed 58 = .ok (.iload_n 1, 1) := by decide +kernel
theorem dX5_packed_59 : decode cX5_packed 59 = .ok (.invokevirtual 146, 3) := by decide +kernel
theorem dX5_packed_62 : decode cX5_packed 62 = .ok (.imul, 1) := by decide +kernel
theorem dX5_packed_63 : decode cX5_packed 63 = .ok (.ireturn, 1) := by decide +kernel
theorem dX5_packed_64 : decode cX5_packed 64 = .ok (.iconst (-1), 1) := by decide +kernel
theorem dX5_packed_65 : decode cX5_packed 65 = .ok (.istore_n 3, 1) := by decide +kernel
theorem dX5_packed_66 : decode cX5_packed 66 = .ok (.iconst 0, 1) := by decide +kernel
theorem dX5_packed_67 : decode cX5_packed 67 = .ok (.istore 4, 2) := by decide +kernel
theorem dX5_packed_69 : decode cX5_packed 69 = .ok (.iload 4, 2) := by decide +kernel
theorem dX5_packed_71 : decode cX5_packed 71 = .ok (.aload_n 0, 1) := by decide +kernel
theorem dX5_packed_72 : decode cX5_packed 72 = .ok (.getfield 59, 3) := by decide +kernel
theorem dX5_packed_75 : decode cX5_packed 75 = .ok (.if_icmp .ge 111, 3) := by decide +kernel
theorem dX5_packed_78 : decode cX5_packed 78 = .ok (.iconst 0, 1) := by decide +kernel
theorem dX5_packed_79 : decode cX5_packed 79 = .ok (.istore 5, 2) := by decide +kernel
theorem dX5_packed_81 : decode cX5_packed 81 = .ok (.iload 5, 2) := by decide +kernel
theorem dX5_packed_83 : decode cX5_packed 83 = .ok (.aload_n 0, 1) := by decide +kernel
theorem dX5_packed_84 : decode cX5_packed 84 = .ok (.getfield 56, 3) := by decide +kernel
theorem dX5_packed_87 : decode cX5_packed 87 = .ok (.if_icmp .ge 93, 3) := by decide +kernel
theorem dX5_packed_90 : decode cX5_packed 90 = .ok (.iload_n 3, 1) := by decide +kernel
theorem dX5_packed_91 : decode cX5_packed 91 = .ok (.aload_n 0, 1) := by decide +kernel
theorem dX5_packed_92 : decode cX5_packed 92 = .ok (.iload 5, 2) := by decide +kernel
theorem dX5_packed_94 : decode cX5_packed 94 = .ok (.iload 4, 2) := by decide +kernel
theorem dX5_packed_96 : decode cX5_packed 96 = .ok (.iload_n 1, 1) := by decide +kernel
theorem dX5_packed_97 : decode cX5_packed 97 = .ok (.invokevirtual 142, 3) := by decide +kernel
theorem dX5_packed_100 : decode cX5_packed 100 = .ok (.ifCond .eq 7, 3) := by decide +kernel
theorem dX5_packed_103 : decode cX5_packed 103 = .ok (.iconst 1, 1) := by decide +kernel
theorem dX5_packed_104 : decode cX5_packed 104 = .ok (.goto 4, 3) := by decide +kernel
theorem dX5_packed_107 : decode cX5_packed 107 = .ok (.iconst 0, 1) := by decide +kernel
theorem dX5_packed_108 : decode cX5_packed 108 = .ok (.iadd, 1) := by decide +kernel
theorem dX5_packed_109 : decode cX5_packed 109 = .ok (.istore_n 3, 1) := by decide +kernel
theorem dX5_packed_110 : decode cX5_packed 110 = .ok (.iload_n 3, 1) := by decide +kernel
theorem dX5_packed_111 : decode cX5_packed 111 = .ok (.iload_n 2, 1) := by decide +kernel
theorem dX5_packed_112 : decode cX5_packed 112 = .ok (.iconst 2, 1) := by decide +kernel
theorem dX5_packed_113 : decode cX5_packed 113 = .ok (.idiv, 1) := by decide +kernel
theorem dX5_packed_114 : decode cX5_packed 114 = .ok (.if_icmp .ne 60, 3) := by decide +kernel
theorem dX5_packed_117 : decode cX5_packed 117 = .ok (.iload 5, 2) := by decide +kernel
theorem dX5_packed_119 : decode cX5_packed 119 = .ok (.iconst 1, 1) := by decide +kernel
theorem dX5_packed_120 : decode cX5_packed 120 = .ok (.iadd, 1) := by decide +kernel
theorem dX5_packed_121 : decode cX5_packed 121 = .ok (.istore 6, 2) := by decide +kernel
theorem dX5_packed_123 : decode cX5_packed 123 = .ok (.iload 6, 2) := by decide +kernel
theorem dX5_packed_125 : decode cX5_packed 125 = .ok (.aload_n 0, 1) := by decide +kernel
theorem dX5_packed_126 : decode cX5_packed 126 = .ok (.getfield 56, 3) := by decide +kernel
theorem dX5_packed_129 : decode cX5_packed 129 = .ok (.if_icmp .ge 21, 3) := by decide +kernel
theorem dX5_packed_132 : decode cX5_packed 132 = .ok (.aload_n 0, 1) := by decide +kernel
theorem dX5_packed_133 : decode cX5_packed 133 = .ok (.iload 6, 2) := by decide +kernel
theorem dX5_packed_135 : decode cX5_packed 135 = .ok (.iload 4, 2) := by decide +kernel
theorem dX5_packed_137 : decode cX5_packed 137 = .ok (.iload_n 1, 1) := by decide +kernel
theorem dX5_packed_138 : decode cX5_packed 138 = .ok (.invokevirtual 142, 3) := by decide +kernel
theorem dX5_packed_141 : decode cX5_packed 141 = .ok (.ifCond .ne 9, 3) := by decide +kernel
theorem dX5_packed_144 : decode cX5_packed 144 = .ok (.iinc 6 1, 3) := by decide +kernel
theorem dX5_packed_147 : decode cX5_packed 147 = .ok (.goto (-24), 3) := by decide +kernel
theorem dX5_packed_150 : decode cX5_packed 150 = .ok (.iload_n 2, 1) := by decide +kernel
theorem dX5_packed_151 : decode cX5_packed 151 = .ok (.iconst 2, 1) := by decide +kernel
theorem dX5_packed_152 : decode cX5_packed 152 = .ok (.irem, 1) := by decide +kernel
theorem dX5_packed_153 : decode cX5_packed 153 = .ok (.ifCond .ne 11, 3) := by decide +kernel
theorem dX5_packed_156 : decode cX5_packed 156 = .ok (.iload 6, 2) := by decide +kernel
theorem dX5_packed_158 : decode cX5_packed 158 = .ok (.iload 5, 2) := by decide +kernel
theorem dX5_packed_160 : decode cX5_packed 160 = .ok (.isub, 1) := by decide +kernel
theorem dX5_packed_161 : decode cX5_packed 161 = .ok (.goto 12, 3) := by decide +kernel
theorem dX5_packed_164 : decode cX5_packed 164 = .ok (.aload_n 0, 1) := by decide +kernel
theorem dX5_packed_165 : decode cX5_packed 165 = .ok (.iload 5, 2) := by decide +kernel
theorem dX5_packed_167 : decode cX5_packed 167 = .ok (.iload 4, 2) := by decide +kernel
theorem dX5_packed_169 : decode cX5_packed 169 = .ok (.iload_n 1, 1) := by decide +kernel
theorem dX5_packed_170 : decode cX5_packed 170 = .ok (.invokevirtual 87, 3) := by decide +kernel
theorem dX5_packed_173 : decode cX5_packed 173 = .ok (.ireturn, 1) := by decide +kernel
theorem dX5_packed_174 : decode cX5_packed 174 = .ok (.iinc 5 1, 3) := by decide +kernel
theorem dX5_packed_177 : decode cX5_packed 177 = .ok (.goto (-96), 3) := by decide +kernel
theorem dX5_packed_180 : decode cX5_packed 180 = .ok (.iinc 4 1, 3) := by decide +kernel
theorem dX5_packed_183 : decode cX5_packed 183 = .ok (.goto (-114), 3) := by decide +kernel
theorem dX5_packed_186 : decode cX5_packed 186 = .ok (.iconst 0, 1) := by decide +kernel
theorem dX5_packed_187 : decode cX5_packed 187 = .ok (.ireturn, 1) := by decide +kernel
theorem dJx00060_init_a7421_0 : decode cJx00060_init_a7421 0 = .ok (.aload_n 0, 1) := by decide +kernel
theorem dJx00060_init_a7421_1 : decode cJx00060_init_a7421 1 = .ok (.aload_n 1, 1) := by decide +kernel
theorem dJx00060_init_a7421_2 : decode cJx00060_init_a7421 2 = .ok (.invokespecial 7, 3) := by decide +kernel
theorem dJx00060_init_a7421_5 : decode cJx00060_init_a7421 5 = .ok (.return_, 1) := by decide +kernel
theorem dJ9_floorDiv_7cf53_0 : decode cJ9_floorDiv_7cf53 0 = .ok (.iload_n 0, 1) := by decide +kernel
theorem dJ9_floorDiv_7cf53_1 : decode cJ9_floorDiv_7cf53 1 = .ok (.iload_n 1, 1) := by decide +kernel
theorem dJ9_floorDiv_7cf53_2 : decode cJ9_floorDiv_7cf53 2 = .ok (.idiv, 1) := by decide +kernel
theorem dJ9_floorDiv_7cf53_3 : decode cJ9_floorDiv_7cf53 3 = .ok (.istore_n 2, 1) := by decide +kernel
theorem dJ9_floorDiv_7cf53_4 : decode cJ9_floorDiv_7cf53 4 = .ok (.iload_n 0, 1) := by decide +kernel
theorem dJ9_floorDiv_7cf53_5 : decode cJ9_floorDiv_7cf53 5 = .ok (.iload_n 1, 1) := by decide +kernel
theorem dJ9_floorDiv_7cf53_6 : decode cJ9_floorDiv_7cf53 6 = .ok (.ixor, 1) := by decide +kernel
theorem dJ9_floorDiv_7cf53_7 : decode cJ9_floorDiv_7cf53 7 = .ok (.ifCond .ge 14, 3) := by decide +kernel
theorem dJ9_floorDiv_7cf53_10 : decode cJ9_floorDiv_7cf53 10 = .ok (.iload_n 2, 1) := by decide +kernel
theorem dJ9_floorDiv_7cf53_11 : decode cJ9_floorDiv_7cf53 11 = .ok (.iload_n 1, 1) := by decide +kernel
theorem dJ9_floorDiv_7cf53_12 : decode cJ9_floorDiv_7cf53 12 = .ok (.imul, 1) := by decide +kernel
theorem dJ9_floorDiv_7cf53_13 : decode cJ9_floorDiv_7cf53 13 = .ok (.iload_n 0, 1) := by decide +kernel
theorem dJ9_floorDiv_7cf53_14 : decode cJ9_floorDiv_7cf53 14 = .ok (.if_icmp .eq 7, 3) := by decide +kernel
theorem dJ9_floorDiv_7cf53_17 : decode cJ9_floorDiv_7cf53 17 = .ok (.iload_n 2, 1) := by decide +kernel
theorem dJ9_floorDiv_7cf53_18 : decode cJ9_floorDiv_7cf53 18 = .ok (.iconst 1, 1) := by decide +kernel
theorem dJ9_floorDiv_7cf53_19 : decode cJ9_floorDiv_7cf53 19 = .ok (.isub, 1) := by decide +kernel
theorem dJ9_floorDiv_7cf53_20 : decode cJ9_floorDiv_7cf53 20 = .ok (.ireturn, 1) := by decide +kernel
theorem dJ9_floorDiv_7cf53_21 : decode cJ9_floorDiv_7cf53 21 = .ok (.iload_n 2, 1) := by decide +kernel
theorem dJ9_floorDiv_7cf53_22 : decode cJ9_floorDiv_7cf53 22 = .ok (.ireturn, 1) := by decide +kernel
theorem dJ9_floorMod_7cf53_0 : decode cJ9_floorMod_7cf53 0 = .ok (.iload_n 0, 1) := by decide +kernel
theorem dJ9_floorMod_7cf53_1 : decode cJ9_floorMod_7cf53 1 = .ok (.iload_n 1, 1) := by decide +kernel
theorem dJ9_floorMod_7cf53_2 : decode cJ9_floorMod_7cf53 2 = .ok (.irem, 1) := by decide +kernel
theorem dJ9_floorMod_7cf53_3 : decode cJ9_floorMod_7cf53 3 = .ok (.istore_n 2, 1) := by decide +kernel
theorem dJ9_floorMod_7cf53_4 : decode cJ9_floorMod_7cf53 4 = .ok (.iload_n 0, 1) := by decide +kernel
theorem dJ9_floorMod_7cf53_5 : decode cJ9_floorMod_7cf53 5 = .ok (.iload_n 1, 1) := by decide +kernel
theorem dJ9_floorMod_7cf53_6 : decode cJ9_floorMod_7cf53 6 = .ok (.ixor, 1) := by decide +kernel
theorem dJ9_floorMod_7cf53_7 : decode cJ9_floorMod_7cf53 7 = .ok (.ifCond .ge 11, 3) := by decide +kernel
theorem dJ9_floorMod_7cf53_10 : decode cJ9_floorMod_7cf53 10 = .ok (.iload_n 2, 1) := by decide +kernel
theorem dJ9_floorMod_7cf53_11 : decode cJ9_floorMod_7cf53 11 = .ok (.ifCond .eq 7, 3) := by decide +kernel
theorem dJ9_floorMod_7cf53_14 : decode cJ9_floorMod_7cf53 14 = .ok (.iload_n 2, 1) := by decide +kernel
theorem dJ9_floorMod_7cf53_15 : decode cJ9_floorMod_7cf53 15 = .ok (.iload_n 1, 1) := by decide +kernel
theorem dJ9_floorMod_7cf53_16 : decode cJ9_floorMod_7cf53 16 = .ok (.iadd, 1) := by decide +kernel
theorem dJ9_floorMod_7cf53_17 : decode cJ9_floorMod_7cf53 17 = .ok (.ireturn, 1) := by decide +kernel
theorem dJ9_floorMod_7cf53_18 : decode cJ9_floorMod_7cf53 18 = .ok (.iload_n 2, 1) := by decide +kernel
theorem dJ9_floorMod_7cf53_19 : decode cJ9_floorMod_7cf53 19 = .ok (.ireturn, 1) := by decide +kernel
theorem dJ9_max_7cf53_0 : decode cJ9_max_7cf53 0 = .ok (.iload_n 0, 1) := by decide +kernel
theorem dJ9_max_7cf53_1 : decode cJ9_max_7cf53 1 = .ok (.iload_n 1, 1) := by decide +kernel
theorem dJ9_max_7cf53_2 : decode cJ9_max_7cf53 2 = .ok (.if_icmp .lt 7, 3) := by decide +kernel
theorem dJ9_max_7cf53_5 : decode cJ9_max_7cf53 5 = .ok (.iload_n 0, 1) := by decide +kernel
theorem dJ9_max_7cf53_6 : decode cJ9_max_7cf53 6 = .ok (.goto 4, 3) := by decide +kernel
theorem dJ9_max_7cf53_9 : decode cJ9_max_7cf53 9 = .ok (.iload_n 1, 1) := by decide +kernel
theorem dJ9_max_7cf53_10 : decode cJ9_max_7cf53 10 = .ok (.ireturn, 1) := by decide +kernel
theorem dJ9_min_7cf53_0 : decode cJ9_min_7cf53 0 = .ok (.iload_n 0, 1) := by decide +kernel
theorem dJ9_min_7cf53_1 : decode cJ9_min_7cf53 1 = .ok (.iload_n 1, 1) := by decide +kernel
theorem dJ9_min_7cf53_2 : decode cJ9_min_7cf53 2 = .ok (.if_icmp .gt 7, 3) := by decide +kernel
theorem dJ9_min_7cf53_5 : decode cJ9_min_7cf53 5 = .ok (.iload_n 0, 1) := by decide +kernel
theorem dJ9_min_7cf53_6 : decode cJ9_min_7cf53 6 = .ok (.goto 4, 3) := by decide +kernel
theorem dJ9_min_7cf53_9 : decode cJ9_min_7cf53 9 = .ok (.iload_n 1, 1) := by decide +kernel
theorem dJ9_min_7cf53_10 : decode cJ9_min_7cf53 10 = .ok (.ireturn, 1) := by decide +kernel
theorem dL_cell_0 : decode cL_cell 0 = .ok (.iload_n 1, 1) := by decide +kernel
theorem dL_cell_1 : decode cL_cell 1 = .ok (.aload_n 0, 1) := by decide +kernel
theorem dL_cell_2 : decode cL_cell 2 = .ok (.arraylength, 1) := by decide +kernel
theorem dL_cell_3 : decode cL_cell 3 = .ok (.if_icmp .ge 9, 3) := by decide +kernel
theorem dL_cell_6 : decode cL_cell 6 = .ok (.aload_n 0, 1) := by decide +kernel
theorem dL_cell_7 : decode cL_cell 7 = .ok (.iload_n 1, 1) := by decide +kernel
theorem dL_cell_8 : decode cL_cell 8 = .ok (.iaload, 1) := by decide +kernel
theorem dL_cell_9 : decode cL_cell 9 = .ok (.goto 4, 3) := by decide +kernel
theorem dL_cell_12 : decode cL_cell 12 = .ok (.iconst 0, 1) := by decide +kernel
theorem dL_cell_13 : decode cL_cell 13 = .ok (.ireturn, 1) := by decide +kernel
theorem dL_ink_0 : decode cL_ink 0 = .ok (.aload 5, 2) := by decide +kernel
theorem dL_ink_2 : decode cL_ink 2 = .ok (.iconst 0, 1) := by decide +kernel
theorem dL_ink_3 : decode cL_ink 3 = .ok (.aload_n 0, 1) := by decide +kernel
theorem dL_ink_4 : decode cL_ink 4 = .ok (.iload_n 1, 1) := by decide +kernel
theorem dL_ink_5 : decode cL_ink 5 = .ok (.iload_n 2, 1) := by decide +kernel
theorem dL_ink_6 : decode cL_ink 6 = .ok (.iload_n 3, 1) := by decide +kernel
theorem dL_ink_7 : decode cL_ink 7 = .ok (.iload 4, 2) := by decide +kernel
theorem dL_ink_9 : decode cL_ink 9 = .ok (.invokevirtual 7, 3) := by decide +kernel
theorem dL_ink_12 : decode cL_ink 12 = .ok (.i2l, 1) := by decide +kernel
theorem dL_ink_13 : decode cL_ink 13 = .ok (.lastore, 1) := by decide +kernel
theorem dL_ink_14 : decode cL_ink 14 = .ok (.goto 11, 3) := by decide +kernel
theorem dL_ink_17 : decode cL_ink 17 = .ok (.astore 6, 2) := by decide +kernel
theorem dL_ink_19 : decode cL_ink 19 = .ok (.iconst 1, 1) := by decide +kernel
theorem dL_ink_20 : decode cL_ink 20 = .ok (.ireturn, 1) := by decide +kernel
theorem dL_ink_21 : decode cL_ink 21 = .ok (.astore 6, 2) := by decide +kernel
theorem dL_ink_23 : decode cL_ink 23 = .ok (.iconst 2, 1) := by decide +kernel
theorem dL_ink_24 : decode cL_ink 24 = .ok (.ireturn, 1) := by decide +kernel
theorem dL_ink_25 : decode cL_ink 25 = .ok (.iconst 0, 1) := by decide +kernel
theorem dL_ink_26 : decode cL_ink 26 = .ok (.ireturn, 1) := by decide +kernel
theorem dL_colour_0 : decode cL_colour 0 = .ok (.aload_n 0, 1) := by decide +kernel
theorem dL_colour_1 : decode cL_colour 1 = .ok (.iload_n 1, 1) := by decide +kernel
theorem dL_colour_2 : decode cL_colour 2 = .ok (.iload_n 2, 1) := by decide +kernel
theorem dL_colour_3 : decode cL_colour 3 = .ok (.invokevirtual 17, 3) := by decide +kernel
theorem dL_colour_6 : decode cL_colour 6 = .ok (.goto 9, 3) := by decide +kernel
theorem dL_colour_9 : decode cL_colour 9 = .ok (.astore_n 3, 1) := by decide +kernel
theorem dL_colour_10 : decode cL_colour 10 = .ok (.iconst 1, 1) := by decide +kernel
theorem dL_colour_11 : decode cL_colour 11 = .ok (.ireturn, 1) := by decide +kernel
theorem dL_colour_12 : decode cL_colour 12 = .ok (.astore_n 3, 1) := by decide +kernel
theorem dL_colour_13 : decode cL_colour 13 = .ok (.iconst 2, 1) := by decide +kernel
theorem dL_colour_14 : decode cL_colour 14 = .ok (.ireturn, 1) := by decide +kernel
theorem dL_colour_15 : decode cL_colour 15 = .ok (.iconst 0, 1) := by decide +kernel
theorem dL_colour_16 : decode cL_colour 16 = .ok (.ireturn, 1) := by decide +kernel
theorem dL_limit_0 : decode cL_limit 0 = .ok (.aload_n 2, 1) := by decide +kernel
theorem dL_limit_1 : decode cL_limit 1 = .ok (.iconst 0, 1) := by decide +kernel
theorem dL_limit_2 : decode cL_limit 2 = .ok (.aload_n 0, 1) := by decide +kernel
theorem dL_limit_3 : decode cL_limit 3 = .ok (.iload_n 1, 1) := by decide +kernel
theorem dL_limit_4 : decode cL_limit 4 = .ok (.invokevirtual 23, 3) := by decide +kernel
theorem dL_limit_7 : decode cL_limit 7 = .ok (.i2l, 1) := by decide +kernel
theorem dL_limit_8 : decode cL_limit 8 = .ok (.lastore, 1) := by decide +kernel
theorem dL_limit_9 : decode cL_limit 9 = .ok (.goto 6, 3) := by decide +kernel
theorem dL_limit_12 : decode cL_limit 12 = .ok (.astore_n 3, 1) := by decide +kernel
theorem dL_limit_13 : decode cL_limit 13 = .ok (.iconst 1, 1) := by decide +kernel
theorem dL_limit_14 : decode cL_limit 14 = .ok (.ireturn, 1) := by decide +kernel
theorem dL_limit_15 : decode cL_limit 15 = .ok (.iconst 0, 1) := by decide +kernel
theorem dL_limit_16 : decode cL_limit 16 = .ok (.ireturn, 1) := by decide +kernel
theorem dL_plate_0 : decode cL_plate 0 = .ok (.aload 5, 2) := by decide +kernel
theorem dL_plate_2 : decode cL_plate 2 = .ok (.iconst 0, 1) := by decide +kernel
theorem dL_plate_3 : decode cL_plate 3 = .ok (.aload_n 0, 1) := by decide +kernel
theorem dL_plate_4 : decode cL_plate 4 = .ok (.iload_n 1, 1) := by decide +kernel
theorem dL_plate_5 : decode cL_plate 5 = .ok (.iload_n 2, 1) := by decide +kernel
theorem dL_plate_6 : decode cL_plate 6 = .ok (.iload_n 3, 1) := by decide +kernel
theorem dL_plate_7 : decode cL_plate 7 = .ok (.iload 4, 2) := by decide +kernel
theorem dL_plate_9 : decode cL_plate 9 = .ok (.invokevirtual 27, 3) := by decide +kernel
theorem dL_plate_12 : decode cL_plate 12 = .ok (.i2l, 1) := by decide +kernel
theorem dL_plate_13 : decode cL_plate 13 = .ok (.lastore, 1) := by decide +kernel
theorem dL_plate_14 : decode cL_plate 14 = .ok (.goto 11, 3) := by decide +kernel
theorem dL_plate_17 : decode cL_plate 17 = .ok (.astore 6, 2) := by decide +kernel
theorem dL_plate_19 : decode cL_plate 19 = .ok (.iconst 1, 1) := by decide +kernel
theorem dL_plate_20 : decode cL_plate 20 = .ok (.ireturn, 1) := by decide +kernel
theorem dL_plate_21 : decode cL_plate 21 = .ok (.astore 6, 2) := by decide +kernel
theorem dL_plate_23 : decode cL_plate 23 = .ok (.iconst 2, 1) := by decide +kernel
theorem dL_plate_24 : decode cL_plate 24 = .ok (.ireturn, 1) := by decide +kernel
theorem dL_plate_25 : decode cL_plate 25 = .ok (.iconst 0, 1) := by decide +kernel
theorem dL_plate_26 : decode cL_plate 26 = .ok (.ireturn, 1) := by decide +kernel
theorem dL_seen_0 : decode cL_seen 0 = .ok (.aload 5, 2) := by decide +kernel
theorem dL_seen_2 : decode cL_seen 2 = .ok (.iconst 0, 1) := by decide +kernel
theorem dL_seen_3 : decode cL_seen 3 = .ok (.aload_n 0, 1) := by decide +kernel
theorem dL_seen_4 : decode cL_seen 4 = .ok (.iload_n 1, 1) := by decide +kernel
theorem dL_seen_5 : decode cL_seen 5 = .ok (.iload_n 2, 1) := by decide +kernel
theorem dL_seen_6 : decode cL_seen 6 = .ok (.iload_n 3, 1) := by decide +kernel
theorem dL_seen_7 : decode cL_seen 7 = .ok (.iload 4, 2) := by decide +kernel
theorem dL_seen_9 : decode cL_seen 9 = .ok (.invokevirtual 30, 3) := by decide +kernel
theorem dL_seen_12 : decode cL_seen 12 = .ok (.i2l, 1) := by decide +kernel
theorem dL_seen_13 : decode cL_seen 13 = .ok (.lastore, 1) := by decide +kernel
theorem dL_seen_14 : decode cL_seen 14 = .ok (.goto 7, 3) := by decide +kernel
theorem dL_seen_17 : decode cL_seen 17 = .ok (.astore 6, 2) := by decide +kernel
theorem dL_seen_19 : decode cL_seen 19 = .ok (.iconst 1, 1) := by decide +kernel
theorem dL_seen_20 : decode cL_seen 20 = .ok (.ireturn, 1) := by decide +kernel
theorem dL_seen_21 : decode cL_seen 21 = .ok (.iconst 0, 1) := by decide +kernel
theorem dL_seen_22 : decode cL_seen 22 = .ok (.ireturn, 1) := by decide +kernel
theorem dL_lender_0 : decode cL_lender 0 = .ok (.aload_n 3, 1) := by decide +kernel
theorem dL_lender_1 : decode cL_lender 1 = .ok (.iconst 0, 1) := by decide +kernel
theorem dL_lender_2 : decode cL_lender 2 = .ok (.aload_n 0, 1) := by decide +kernel
theorem dL_lender_3 : decode cL_lender 3 = .ok (.iload_n 1, 1) := by decide +kernel
theorem dL_lender_4 : decode cL_lender 4 = .ok (.iload_n 2, 1) := by decide +kernel
theorem dL_lender_5 : decode cL_lender 5 = .ok (.invokevirtual 34, 3) := by decide +kernel
theorem dL_lender_8 : decode cL_lender 8 = .ok (.i2l, 1) := by decide +kernel
theorem dL_lender_9 : decode cL_lender 9 = .ok (.lastore, 1) := by decide +kernel
theorem dL_lender_10 : decode cL_lender 10 = .ok (.goto 7, 3) := by decide +kernel
theorem dL_lender_13 : decode cL_lender 13 = .ok (.astore 4, 2) := by decide +kernel
theorem dL_lender_15 : decode cL_lender 15 = .ok (.iconst 1, 1) := by decide +kernel
theorem dL_lender_16 : decode cL_lender 16 = .ok (.ireturn, 1) := by decide +kernel
theorem dL_lender_17 : decode cL_lender 17 = .ok (.iconst 0, 1) := by decide +kernel
theorem dL_lender_18 : decode cL_lender 18 = .ok (.ireturn, 1) := by decide +kernel
theorem dL_width_0 : decode cL_width 0 = .ok (.aload_n 2, 1) := by decide +kernel
theorem dL_width_1 : decode cL_width 1 = .ok (.iconst 0, 1) := by decide +kernel
theorem dL_width_2 : decode cL_width 2 = .ok (.aload_n 0, 1) := by decide +kernel
theorem dL_width_3 : decode cL_width 3 = .ok (.iload_n 1, 1) := by decide +kernel
theorem dL_width_4 : decode cL_width 4 = .ok (.invokevirtual 38, 3) := by decide +kernel
theorem dL_width_7 : decode cL_width 7 = .ok (.i2l, 1) := by decide +kernel
theorem dL_width_8 : decode cL_width 8 = .ok (.lastore, 1) := by decide +kernel
theorem dL_width_9 : decode cL_width 9 = .ok (.goto 6, 3) := by decide +kernel
theorem dL_width_12 : decode cL_width 12 = .ok (.astore_n 3, 1) := by decide +kernel
theorem dL_width_13 : decode cL_width 13 = .ok (.iconst 1, 1) := by decide +kernel
theorem dL_width_14 : decode cL_width 14 = .ok (.ireturn, 1) := by decide +kernel
theorem dL_width_15 : decode cL_width 15 = .ok (.iconst 0, 1) := by decide +kernel
theorem dL_width_16 : decode cL_width 16 = .ok (.ireturn, 1) := by decide +kernel
theorem dL_gain_0 : decode cL_gain 0 = .ok (.aload_n 0, 1) := by decide +kernel
theorem dL_gain_1 : decode cL_gain 1 = .ok (.iload_n 1, 1) := by decide +kernel
theorem dL_gain_2 : decode cL_gain 2 = .ok (.iload_n 2, 1) := by decide +kernel
theorem dL_gain_3 : decode cL_gain 3 = .ok (.invokevirtual 41, 3) := by decide +kernel
theorem dL_gain_6 : decode cL_gain 6 = .ok (.goto 9, 3) := by decide +kernel
theorem dL_gain_9 : decode cL_gain 9 = .ok (.astore_n 3, 1) := by decide +kernel
theorem dL_gain_10 : decode cL_gain 10 = .ok (.iconst 1, 1) := by decide +kernel
theorem dL_gain_11 : decode cL_gain 11 = .ok (.ireturn, 1) := by decide +kernel
theorem dL_gain_12 : decode cL_gain 12 = .ok (.astore_n 3, 1) := by decide +kernel
theorem dL_gain_13 : decode cL_gain 13 = .ok (.iconst 2, 1) := by decide +kernel
theorem dL_gain_14 : decode cL_gain 14 = .ok (.ireturn, 1) := by decide +kernel
theorem dL_gain_15 : decode cL_gain 15 = .ok (.iconst 0, 1) := by decide +kernel
theorem dL_gain_16 : decode cL_gain 16 = .ok (.ireturn, 1) := by decide +kernel
theorem dL_cell__0 : decode cL_cell_ 0 = .ok (.aload_n 3, 1) := by decide +kernel
theorem dL_cell__1 : decode cL_cell_ 1 = .ok (.iconst 0, 1) := by decide +kernel
theorem dL_cell__2 : decode cL_cell_ 2 = .ok (.aload_n 0, 1) := by decide +kernel
theorem dL_cell__3 : decode cL_cell_ 3 = .ok (.iload_n 1, 1) := by decide +kernel
theorem dL_cell__4 : decode cL_cell_ 4 = .ok (.iload_n 2, 1) := by decide +kernel
theorem dL_cell__5 : decode cL_cell_ 5 = .ok (.invokevirtual 44, 3) := by decide +kernel
theorem dL_cell__8 : decode cL_cell_ 8 = .ok (.i2l, 1) := by decide +kernel
theorem dL_cell__9 : decode cL_cell_ 9 = .ok (.lastore, 1) := by decide +kernel
theorem dL_cell__10 : decode cL_cell_ 10 = .ok (.goto 15, 3) := by decide +kernel
theorem dL_cell__13 : decode cL_cell_ 13 = .ok (.astore 4, 2) := by decide +kernel
theorem dL_cell__15 : decode cL_cell_ 15 = .ok (.iconst 1, 1) := by decide +kernel
theorem dL_cell__16 : decode cL_cell_ 16 = .ok (.ireturn, 1) := by decide +kernel
theorem dL_cell__17 : decode cL_cell_ 17 = .ok (.astore 4, 2) := by decide +kernel
theorem dL_cell__19 : decode cL_cell_ 19 = .ok (.iconst 2, 1) := by decide +kernel
theorem dL_cell__20 : decode cL_cell_ 20 = .ok (.ireturn, 1) := by decide +kernel
theorem dL_cell__21 : decode cL_cell_ 21 = .ok (.astore 4, 2) := by decide +kernel
theorem dL_cell__23 : decode cL_cell_ 23 = .ok (.iconst 3, 1) := by decide +kernel
theorem dL_cell__24 : decode cL_cell_ 24 = .ok (.ireturn, 1) := by decide +kernel
theorem dL_cell__25 : decode cL_cell_ 25 = .ok (.iconst 0, 1) := by decide +kernel
theorem dL_cell__26 : decode cL_cell_ 26 = .ok (.ireturn, 1) := by decide +kernel
theorem dL_rank_0 : decode cL_rank 0 = .ok (.aload_n 3, 1) := by decide +kernel
theorem dL_rank_1 : decode cL_rank 1 = .ok (.iconst 0, 1) := by decide +kernel
theorem dL_rank_2 : decode cL_rank 2 = .ok (.aload_n 0, 1) := by decide +kernel
theorem dL_rank_3 : decode cL_rank 3 = .ok (.iload_n 1, 1) := by decide +kernel
theorem dL_rank_4 : decode cL_rank 4 = .ok (.iload_n 2, 1) := by decide +kernel
theorem dL_rank_5 : decode cL_rank 5 = .ok (.invokevirtual 49, 3) := by decide +kernel
theorem dL_rank_8 : decode cL_rank 8 = .ok (.i2l, 1) := by decide +kernel
theorem dL_rank_9 : decode cL_rank 9 = .ok (.lastore, 1) := by decide +kernel
theorem dL_rank_10 : decode cL_rank 10 = .ok (.goto 7, 3) := by decide +kernel
theorem dL_rank_13 : decode cL_rank 13 = .ok (.astore 4, 2) := by decide +kernel
theorem dL_rank_15 : decode cL_rank 15 = .ok (.iconst 1, 1) := by decide +kernel
theorem dL_rank_16 : decode cL_rank 16 = .ok (.ireturn, 1) := by decide +kernel
theorem dL_rank_17 : decode cL_rank 17 = .ok (.iconst 0, 1) := by decide +kernel
theorem dL_rank_18 : decode cL_rank 18 = .ok (.ireturn, 1) := by decide +kernel
theorem dL_same_0 : decode cL_same 0 = .ok (.aload 4, 2) := by decide +kernel
theorem dL_same_2 : decode cL_same 2 = .ok (.iconst 0, 1) := by decide +kernel
theorem dL_same_3 : decode cL_same 3 = .ok (.aload_n 0, 1) := by decide +kernel
theorem dL_same_4 : decode cL_same 4 = .ok (.iload_n 1, 1) := by decide +kernel
theorem dL_same_5 : decode cL_same 5 = .ok (.iload_n 2, 1) := by decide +kernel
theorem dL_same_6 : decode cL_same 6 = .ok (.iload_n 3, 1) := by decide +kernel
theorem dL_same_7 : decode cL_same 7 = .ok (.invokevirtual 52, 3) := by decide +kernel
theorem dL_same_10 : decode cL_same 10 = .ok (.i2l, 1) := by decide +kernel
theorem dL_same_11 : decode cL_same 11 = .ok (.lastore, 1) := by decide +kernel
theorem dL_same_12 : decode cL_same 12 = .ok (.goto 11, 3) := by decide +kernel
theorem dL_same_15 : decode cL_same 15 = .ok (.astore 5, 2) := by decide +kernel
theorem dL_same_17 : decode cL_same 17 = .ok (.iconst 1, 1) := by decide +kernel
theorem dL_same_18 : decode cL_same 18 = .ok (.ireturn, 1) := by decide +kernel
theorem dL_same_19 : decode cL_same 19 = .ok (.astore 5, 2) := by decide +kernel
theorem dL_same_21 : decode cL_same 21 = .ok (.iconst 2, 1) := by decide +kernel
theorem dL_same_22 : decode cL_same 22 = .ok (.ireturn, 1) := by decide +kernel
theorem dL_same_23 : decode cL_same 23 = .ok (.iconst 0, 1) := by decide +kernel
theorem dL_same_24 : decode cL_same 24 = .ok (.ireturn, 1) := by decide +kernel
theorem dL_prints_0 : decode cL_prints 0 = .ok (.aload 5, 2) := by decide +kernel
theorem dL_prints_2 : decode cL_prints 2 = .ok (.iconst 0, 1) := by decide +kernel
theorem dL_prints_3 : decode cL_prints 3 = .ok (.aload_n 0, 1) := by decide +kernel
theorem dL_prints_4 : decode cL_prints 4 = .ok (.iload_n 1, 1) := by decide +kernel
theorem dL_prints_5 : decode cL_prints 5 = .ok (.iload_n 2, 1) := by decide +kernel
theorem dL_prints_6 : decode cL_prints 6 = .ok (.iload_n 3, 1) := by decide +kernel
theorem dL_prints_7 : decode cL_prints 7 = .ok (.iload 4, 2) := by decide +kernel
theorem dL_prints_9 : decode cL_prints 9 = .ok (.invokevirtual 56, 3) := by decide +kernel
theorem dL_prints_12 : decode cL_prints 12 = .ok (.ifCond .eq 7, 3) := by decide +kernel
theorem dL_prints_15 : decode cL_prints 15 = .ok (.lconst 1, 1) := by decide +kernel
theorem dL_prints_16 : decode cL_prints 16 = .ok (.goto 4, 3) := by decide +kernel
theorem dL_prints_19 : decode cL_prints 19 = .ok (.lconst 0, 1) := by decide +kernel
theorem dL_prints_20 : decode cL_prints 20 = .ok (.lastore, 1) := by decide +kernel
theorem dL_prints_21 : decode cL_prints 21 = .ok (.goto 7, 3) := by decide +kernel
theorem dL_prints_24 : decode cL_prints 24 = .ok (.astore 6, 2) := by decide +kernel
theorem dL_prints_26 : decode cL_prints 26 = .ok (.iconst 1, 1) := by decide +kernel
theorem dL_prints_27 : decode cL_prints 27 = .ok (.ireturn, 1) := by decide +kernel
theorem dL_prints_28 : decode cL_prints 28 = .ok (.iconst 0, 1) := by decide +kernel
theorem dL_prints_29 : decode cL_prints 29 = .ok (.ireturn, 1) := by decide +kernel
theorem dL_covered_0 : decode cL_covered 0 = .ok (.aload_n 2, 1) := by decide +kernel
theorem dL_covered_1 : decode cL_covered 1 = .ok (.iconst 0, 1) := by decide +kernel
theorem dL_covered_2 : decode cL_covered 2 = .ok (.aload_n 0, 1) := by decide +kernel
theorem dL_covered_3 : decode cL_covered 3 = .ok (.iload_n 1, 1) := by decide +kernel
theorem dL_covered_4 : decode cL_covered 4 = .ok (.invokevirtual 60, 3) := by decide +kernel
theorem dL_covered_7 : decode cL_covered 7 = .ok (.lastore, 1) := by decide +kernel
theorem dL_covered_8 : decode cL_covered 8 = .ok (.goto 6, 3) := by decide +kernel
theorem dL_covered_11 : decode cL_covered 11 = .ok (.astore_n 3, 1) := by decide +kernel
theorem dL_covered_12 : decode cL_covered 12 = .ok (.iconst 1, 1) := by decide +kernel
theorem dL_covered_13 : decode cL_covered 13 = .ok (.ireturn, 1) := by decide +kernel
theorem dL_covered_14 : decode cL_covered 14 = .ok (.iconst 0, 1) := by decide +kernel
theorem dL_covered_15 : decode cL_covered 15 = .ok (.ireturn, 1) := by decide +kernel
theorem dL_packed_0 : decode cL_packed 0 = .ok (.aload_n 3, 1) := by decide +kernel
theorem dL_packed_1 : decode cL_packed 1 = .ok (.iconst 0, 1) := by decide +kernel
theorem dL_packed_2 : decode cL_packed 2 = .ok (.aload_n 0, 1) := by decide +kernel
theorem dL_packed_3 : decode cL_packed 3 = .ok (.iload_n 1, 1) := by decide +kernel
theorem dL_packed_4 : decode cL_packed 4 = .ok (.iload_n 2, 1) := by decide +kernel
theorem dL_packed_5 : decode cL_packed 5 = .ok (.invokevirtual 64, 3) := by decide +kernel
theorem dL_packed_8 : decode cL_packed 8 = .ok (.i2l, 1) := by decide +kernel
theorem dL_packed_9 : decode cL_packed 9 = .ok (.lastore, 1) := by decide +kernel
theorem dL_packed_10 : decode cL_packed 10 = .ok (.goto 7, 3) := by decide +kernel
theorem dL_packed_13 : decode cL_packed 13 = .ok (.astore 4, 2) := by decide +kernel
theorem dL_packed_15 : decode cL_packed 15 = .ok (.iconst 1, 1) := by decide +kernel
theorem dL_packed_16 : decode cL_packed 16 = .ok (.ireturn, 1) := by decide +kernel
theorem dL_packed_17 : decode cL_packed 17 = .ok (.iconst 0, 1) := by decide +kernel
theorem dL_packed_18 : decode cL_packed 18 = .ok (.ireturn, 1) := by decide +kernel
theorem dL_law_0 : decode cL_law 0 = .ok (.new 8, 3) := by decide +kernel
theorem dL_law_3 : decode cL_law 3 = .ok (.dup, 1) := by decide +kernel
theorem dL_law_4 : decode cL_law 4 = .ok (.aload_n 0, 1) := by decide +kernel
theorem dL_law_5 : decode cL_law 5 = .ok (.iconst 0, 1) := by decide +kernel
theorem dL_law_6 : decode cL_law 6 = .ok (.invokestatic 67, 3) := by decide +kernel
theorem dL_law_9 : decode cL_law 9 = .ok (.aload_n 0, 1) := by decide +kernel
theorem dL_law_10 : decode cL_law 10 = .ok (.iconst 1, 1) := by decide +kernel
theorem dL_law_11 : decode cL_law 11 = .ok (.invokestatic 67, 3) := by decide +kernel
theorem dL_law_14 : decode cL_law 14 = .ok (.invokespecial 72, 3) := by decide +kernel
theorem dL_law_17 : decode cL_law 17 = .ok (.astore_n 1, 1) := by decide +kernel
theorem dL_law_18 : decode cL_law 18 = .ok (.new 74, 3) := by decide +kernel
theorem dL_law_21 : decode cL_law 21 = .ok (.dup, 1) := by decide +kernel
theorem dL_law_22 : decode cL_law 22 = .ok (.aload_n 0, 1) := by decide +kernel
theorem dL_law_23 : decode cL_law 23 = .ok (.iconst 0, 1) := by decide +kernel
theorem dL_law_24 : decode cL_law 24 = .ok (.invokestatic 67, 3) := by decide +kernel
theorem dL_law_27 : decode cL_law 27 = .ok (.aload_n 0, 1) := by decide +kernel
theorem dL_law_28 : decode cL_law 28 = .ok (.iconst 1, 1) := by decide +kernel
theorem dL_law_29 : decode cL_law 29 = .ok (.invokestatic 67, 3) := by decide +kernel
theorem dL_law_32 : decode cL_law 32 = .ok (.invokespecial 76, 3) := by decide +kernel
theorem dL_law_35 : decode cL_law 35 = .ok (.astore_n 2, 1) := by decide +kernel
theorem dL_law_36 : decode cL_law 36 = .ok (.iconst 1, 1) := by decide +kernel
theorem dL_law_37 : decode cL_law 37 = .ok (.newarray .long, 2) := by decide +kernel
theorem dL_law_39 : decode cL_law 39 = .ok (.astore_n 3, 1) := by decide +kernel
theorem dL_law_40 : decode cL_law 40 = .ok (.iconst 2, 1) := by decide +kernel
theorem dL_law_41 : decode cL_law 41 = .ok (.istore 4, 2) := by decide +kernel
theorem dL_law_43 : decode cL_law 43 = .ok (.iload 4, 2) := by decide +kernel
theorem dL_law_45 : decode cL_law 45 = .ok (.aload_n 0, 1) := by decide +kernel
theorem dL_law_46 : decode cL_law 46 = .ok (.arraylength, 1) := by decide +kernel
theorem dL_law_47 : decode cL_law 47 = .ok (.bipush 6, 2) := by decide +kernel
theorem dL_law_49 : decode cL_law 49 = .ok (.isub, 1) := by decide +kernel
theorem dL_law_50 : decode cL_law 50 = .ok (.if_icmp .gt 1187, 3) := by decide +kernel
theorem dL_law_53 : decode cL_law 53 = .ok (.aload_n 0, 1) := by decide +kernel
theorem dL_law_54 : decode cL_law 54 = .ok (.iload 4, 2) := by decide +kernel
theorem dL_law_56 : decode cL_law 56 = .ok (.iaload, 1) := by decide +kernel
theorem dL_law_57 : decode cL_law 57 = .ok (.bipush 15, 2) := by decide +kernel
theorem dL_law_59 : decode cL_law 59 = .ok (.iand, 1) := by decide +kernel
theorem dL_law_60 : decode cL_law 60 = .ok (.tableswitch 1171 0 14 #[76, 168, 216, 305, 361, 453, 561, 629, 685, 733, 801, 869, 949, 1048, 1103], 76) := by decide +kernel
theorem dL_law_136 : decode cL_law 136 = .ok (.aload_n 1, 1) := by decide +kernel
theorem dL_law_137 : decode cL_law 137 = .ok (.aload_n 0, 1) := by decide +kernel
theorem dL_law_138 : decode cL_law 138 = .ok (.iload 4, 2) := by decide +kernel
theorem dL_law_140 : decode cL_law 140 = .ok (.iconst 1, 1) := by decide +kernel
theorem dL_law_141 : decode cL_law 141 = .ok (.iadd, 1) := by decide +kernel
theorem dL_law_142 : decode cL_law 142 = .ok (.iaload, 1) := by decide +kernel
theorem dL_law_143 : decode cL_law 143 = .ok (.aload_n 0, 1) := by decide +kernel
theorem dL_law_144 : decode cL_law 144 = .ok (.iload 4, 2) := by decide +kernel
theorem dL_law_146 : decode cL_law 146 = .ok (.iconst 2, 1) := by decide +kernel
theorem dL_law_147 : decode cL_law 147 = .ok (.iadd, 1) := by decide +kernel
theorem dL_law_148 : decode cL_law 148 = .ok (.iaload, 1) := by decide +kernel
theorem dL_law_149 : decode cL_law 149 = .ok (.aload_n 0, 1) := by decide +kernel
theorem dL_law_150 : decode cL_law 150 = .ok (.iload 4, 2) := by decide +kernel
theorem dL_law_152 : decode cL_law 152 = .ok (.iconst 3, 1) := by decide +kernel
theorem dL_law_153 : decode cL_law 153 = .ok (.iadd, 1) := by decide +kernel
theorem dL_law_154 : decode cL_law 154 = .ok (.iaload, 1) := by decide +kernel
theorem dL_law_155 : decode cL_law 155 = .ok (.aload_n 0, 1) := by decide +kernel
theorem dL_law_156 : decode cL_law 156 = .ok (.iload 4, 2) := by decide +kernel
theorem dL_law_158 : decode cL_law 158 = .ok (.iconst 4, 1) := by decide +kernel
theorem dL_law_159 : decode cL_law 159 = .ok (.iadd, 1) := by decide +kernel
theorem dL_law_160 : decode cL_law 160 = .ok (.iaload, 1) := by decide +kernel
theorem dL_law_161 : decode cL_law 161 = .ok (.aload_n 3, 1) := by decide +kernel
theorem dL_law_162 : decode cL_law 162 = .ok (.invokestatic 77, 3) := by decide +kernel
theorem dL_law_165 : decode cL_law 165 = .ok (.istore 5, 2) := by decide +kernel
theorem dL_law_167 : decode cL_law 167 = .ok (.aload_n 2, 1) := by decide +kernel
theorem dL_law_168 : decode cL_law 168 = .ok (.aload_n 0, 1) := by decide +kernel
theorem dL_law_169 : decode cL_law 169 = .ok (.iload 4, 2) := by decide +kernel
theorem dL_law_171 : decode cL_law 171 = .ok (.iconst 1, 1) := by decide +kernel
theorem dL_law_172 : decode cL_law 172 = .ok (.iadd, 1) := by decide +kernel
theorem dL_law_173 : decode cL_law 173 = .ok (.iaload, 1) := by decide +kernel
theorem dL_law_174 : decode cL_law 174 = .ok (.aload_n 0, 1) := by decide +kernel
theorem dL_law_175 : decode cL_law 175 = .ok (.iload 4, 2) := by decide +kernel
theorem dL_law_177 : decode cL_law 177 = .ok (.iconst 2, 1) := by decide +kernel
theorem dL_law_178 : decode cL_law 178 = .ok (.iadd, 1) := by decide +kernel
theorem dL_law_179 : decode cL_law 179 = .ok (.iaload, 1) := by decide +kernel
theorem dL_law_180 : decode cL_law 180 = .ok (.aload_n 0, 1) := by decide +kernel
theorem dL_law_181 : decode cL_law 181 = .ok (.iload 4, 2) := by decide +kernel
theorem dL_law_183 : decode cL_law 183 = .ok (.iconst 3, 1) := by decide +kernel
theorem dL_law_184 : decode cL_law 184 = .ok (.iadd, 1) := by decide +kernel
theorem dL_law_185 : decode cL_law 185 = .ok (.iaload, 1) := by decide +kernel
theorem dL_law_186 : decode cL_law 186 = .ok (.aload_n 0, 1) := by decide +kernel
theorem dL_law_187 : decode cL_law 187 = .ok (.iload 4, 2) := by decide +kernel
theorem dL_law_189 : decode cL_law 189 = .ok (.iconst 4, 1) := by decide +kernel
theorem dL_law_190 : decode cL_law 190 = .ok (.iadd, 1) := by decide +kernel
theorem dL_law_191 : decode cL_law 191 = .ok (.iaload, 1) := by decide +kernel
theorem dL_law_192 : decode cL_law 192 = .ok (.invokevirtual 80, 3) := by decide +kernel
theorem dL_law_195 : decode cL_law 195 = .ok (.istore 6, 2) := by decide +kernel
theorem dL_law_197 : decode cL_law 197 = .ok (.aload_n 2, 1) := by decide +kernel
theorem dL_law_198 : decode cL_law 198 = .ok (.invokevirtual 81, 3) := by decide +kernel
theorem dL_law_201 : decode cL_law 201 = .ok (.iload 5, 2) := by decide +kernel
theorem dL_law_203 : decode cL_law 203 = .ok (.if_icmp .eq 5, 3) := by decide +kernel
theorem dL_law_206 : decode cL_law 206 = .ok (.iconst 0, 1) := by decide +kernel
theorem dL_law_207 : decode cL_law 207 = .ok (.ireturn, 1) := by decide +kernel
theorem dL_law_208 : decode cL_law 208 = .ok (.iload 5, 2) := by decide +kernel
theorem dL_law_210 : decode cL_law 210 = .ok (.ifCond .ne 15, 3) := by decide +kernel
theorem dL_law_213 : decode cL_law 213 = .ok (.aload_n 3, 1) := by decide +kernel
theorem dL_law_214 : decode cL_law 214 = .ok (.iconst 0, 1) := by decide +kernel
theorem dL_law_215 : decode cL_law 215 = .ok (.laload, 1) := by decide +kernel
theorem dL_law_216 : decode cL_law 216 = .ok (.iload 6, 2) := by decide +kernel
theorem dL_law_218 : decode cL_law 218 = .ok (.i2l, 1) := by decide +kernel
theorem dL_law_219 : decode cL_law 219 = .ok (.lcmp, 1) := by decide +kernel
theorem dL_law_220 : decode cL_law 220 = .ok (.ifCond .eq 5, 3) := by decide +kernel
theorem dL_law_223 : decode cL_law 223 = .ok (.iconst 0, 1) := by decide +kernel
theorem dL_law_224 : decode cL_law 224 = .ok (.ireturn, 1) := by decide +kernel
theorem dL_law_225 : decode cL_law 225 = .ok (.goto 1006, 3) := by decide +kernel
theorem dL_law_228 : decode cL_law 228 = .ok (.aload_n 1, 1) := by decide +kernel
theorem dL_law_229 : decode cL_law 229 = .ok (.aload_n 0, 1) := by decide +kernel
theorem dL_law_230 : decode cL_law 230 = .ok (.iload 4, 2) := by decide +kernel
theorem dL_law_232 : decode cL_law 232 = .ok (.iconst 1, 1) := by decide +kernel
theorem dL_law_233 : decode cL_law 233 = .ok (.iadd, 1) := by decide +kernel
theorem dL_law_234 : decode cL_law 234 = .ok (.iaload, 1) := by decide +kernel
theorem dL_law_235 : decode cL_law 235 = .ok (.aload_n 0, 1) := by decide +kernel
theorem dL_law_236 : decode cL_law 236 = .ok (.iload 4, 2) := by decide +kernel
theorem dL_law_238 : decode cL_law 238 = .ok (.iconst 2, 1) := by decide +kernel
theorem dL_law_239 : decode cL_law 239 = .ok (.iadd, 1) := by decide +kernel
theorem dL_law_240 : decode cL_law 240 = .ok (.iaload, 1) := by decide +kernel
theorem dL_law_241 : decode cL_law 241 = .ok (.invokestatic 85, 3) := by decide +kernel
theorem dL_law_244 : decode cL_law 244 = .ok (.istore 5, 2) := by decide +kernel
theorem dL_law_246 : decode cL_law 246 = .ok (.aload_n 2, 1) := by decide +kernel
theorem dL_law_247 : decode cL_law 247 = .ok (.aload_n 0, 1) := by decide +kernel
theorem dL_law_248 : decode cL_law 248 = .ok (.iload 4, 2) := by decide +kernel
theorem dL_law_250 : decode cL_law 250 = .ok (.iconst 1, 1) := by decide +kernel
theorem dL_law_251 : decode cL_law 251 = .ok (.iadd, 1) := by decide +kernel
theorem dL_law_252 : decode cL_law 252 = .ok (.iaload, 1) := by decide +kernel
theorem dL_law_253 : decode cL_law 253 = .ok (.aload_n 0, 1) := by decide +kernel
theorem dL_law_254 : decode cL_law 254 = .ok (.iload 4, 2) := by decide +kernel
theorem dL_law_256 : decode cL_law 256 = .ok (.iconst 2, 1) := by decide +kernel
theorem dL_law_257 : decode cL_law 257 = .ok (.iadd, 1) := by decide +kernel
theorem dL_law_258 : decode cL_law 258 = .ok (.iaload, 1) := by decide +kernel
theorem dL_law_259 : decode cL_law 259 = .ok (.invokevirtual 88, 3) := by decide +kernel
theorem dL_law_262 : decode cL_law 262 = .ok (.aload_n 2, 1) := by decide +kernel
theorem dL_law_263 : decode cL_law 263 = .ok (.invokevirtual 81, 3) := by decide +kernel
theorem dL_law_266 : decode cL_law 266 = .ok (.iload 5, 2) := by decide +kernel
theorem dL_law_268 : decode cL_law 268 = .ok (.if_icmp .eq 5, 3) := by decide +kernel
theorem dL_law_271 : decode cL_law 271 = .ok (.iconst 0, 1) := by decide +kernel
theorem dL_law_272 : decode cL_law 272 = .ok (.ireturn, 1) := by decide +kernel
theorem dL_law_273 : decode cL_law 273 = .ok (.goto 958, 3) := by decide +kernel
theorem dL_law_276 : decode cL_law 276 = .ok (.aload_n 1, 1) := by decide +kernel
theorem dL_law_277 : decode cL_law 277 = .ok (.aload_n 0, 1) := by decide +kernel
theorem dL_law_278 : decode cL_law 278 = .ok (.iload 4, 2) := by decide +kernel
theorem dL_law_280 : decode cL_law 280 = .ok (.iconst 1, 1) := by decide +kernel
theorem dL_law_281 : decode cL_law 281 = .ok (.iadd, 1) := by decide +kernel
theorem dL_law_282 : decode cL_law 282 = .ok (.iaload, 1) := by decide +kernel
theorem dL_law_283 : decode cL_law 283 = .ok (.aload_n 0, 1) := by decide +kernel
theorem dL_law_284 : decode cL_law 284 = .ok (.iload 4, 2) := by decide +kernel
theorem dL_law_286 : decode cL_law 286 = .ok (.iconst 2, 1) := by decide +kernel
theorem dL_law_287 : decode cL_law 287 = .ok (.iadd, 1) := by decide +kernel
theorem dL_law_288 : decode cL_law 288 = .ok (.iaload, 1) := by decide +kernel
theorem dL_law_289 : decode cL_law 289 = .ok (.aload_n 0, 1) := by decide +kernel
theorem dL_law_290 : decode cL_law 290 = .ok (.iload 4, 2) := by decide +kernel
theorem dL_law_292 : decode cL_law 292 = .ok (.iconst 3, 1) := by decide +kernel
theorem dL_law_293 : decode cL_law 293 = .ok (.iadd, 1) := by decide +kernel
theorem dL_law_294 : decode cL_law 294 = .ok (.iaload, 1) := by decide +kernel
theorem dL_law_295 : decode cL_law 295 = .ok (.aload_n 0, 1) := by decide +kernel
theorem dL_law_296 : decode cL_law 296 = .ok (.iload 4, 2) := by decide +kernel
theorem dL_law_298 : decode cL_law 298 = .ok (.iconst 4, 1) := by decide +kernel
theorem dL_law_299 : decode cL_law 299 = .ok (.iadd, 1) := by decide +kernel
theorem dL_law_300 : decode cL_law 300 = .ok (.iaload, 1) := by decide +kernel
theorem dL_law_301 : decode cL_law 301 = .ok (.aload_n 0, 1) := by decide +kernel
theorem dL_law_302 : decode cL_law 302 = .ok (.iload 4, 2) := by decide +kernel
theorem dL_law_304 : decode cL_law 304 = .ok (.iconst 5, 1) := by decide +kernel
theorem dL_law_305 : decode cL_law 305 = .ok (.iadd, 1) := by decide +kernel
theorem dL_law_306 : decode cL_law 306 = .ok (.iaload, 1) := by decide +kernel
theorem dL_law_307 : decode cL_law 307 = .ok (.ifCond .eq 7, 3) := by decide +kernel
theorem dL_law_310 : decode cL_law 310 = .ok (.iconst 1, 1) := by decide +kernel
theorem dL_law_311 : decode cL_law 311 = .ok (.goto 4, 3) := by decide +kernel
theorem dL_law_314 : decode cL_law 314 = .ok (.iconst 0, 1) := by decide +kernel
theorem dL_law_315 : decode cL_law 315 = .ok (.invokevirtual 89, 3) := by decide +kernel
theorem dL_law_318 : decode cL_law 318 = .ok (.aload_n 2, 1) := by decide +kernel
theorem dL_law_319 : decode cL_law 319 = .ok (.aload_n 0, 1) := by decide +kernel
theorem dL_law_320 : decode cL_law 320 = .ok (.iload 4, 2) := by decide +kernel
theorem dL_law_322 : decode cL_law 322 = .ok (.iconst 1, 1) := by decide +kernel
theorem dL_law_323 : decode cL_law 323 = .ok (.iadd, 1) := by decide +kernel
theorem dL_law_324 : decode cL_law 324 = .ok (.iaload, 1) := by decide +kernel
theorem dL_law_325 : decode cL_law 325 = .ok (.aload_n 0, 1) := by decide +kernel
theorem dL_law_326 : decode cL_law 326 = .ok (.iload 4, 2) := by decide +kernel
theorem dL_law_328 : decode cL_law 328 = .ok (.iconst 2, 1) := by decide +kernel
theorem dL_law_329 : decode cL_law 329 = .ok (.iadd, 1) := by decide +kernel
theorem dL_law_330 : decode cL_law 330 = .ok (.iaload, 1) := by decide +kernel
theorem dL_law_331 : decode cL_law 331 = .ok (.aload_n 0, 1) := by decide +kernel
theorem dL_law_332 : decode cL_law 332 = .ok (.iload 4, 2) := by decide +kernel
theorem dL_law_334 : decode cL_law 334 = .ok (.iconst 3, 1) := by decide +kernel
theorem dL_law_335 : decode cL_law 335 = .ok (.iadd, 1) := by decide +kernel
theorem dL_law_336 : decode cL_law 336 = .ok (.iaload, 1) := by decide +kernel
theorem dL_law_337 : decode cL_law 337 = .ok (.aload_n 0, 1) := by decide +kernel
theorem dL_law_338 : decode cL_law 338 = .ok (.iload 4, 2) := by decide +kernel
theorem dL_law_340 : decode cL_law 340 = .ok (.iconst 4, 1) := by decide +kernel
theorem dL_law_341 : decode cL_law 341 = .ok (.iadd, 1) := by decide +kernel
theorem dL_law_342 : decode cL_law 342 = .ok (.iaload, 1) := by decide +kernel
theorem dL_law_343 : decode cL_law 343 = .ok (.aload_n 0, 1) := by decide +kernel
theorem dL_law_344 : decode cL_law 344 = .ok (.iload 4, 2) := by decide +kernel
theorem dL_law_346 : decode cL_law 346 = .ok (.iconst 5, 1) := by decide +kernel
theorem dL_law_347 : decode cL_law 347 = .ok (.iadd, 1) := by decide +kernel
theorem dL_law_348 : decode cL_law 348 = .ok (.iaload, 1) := by decide +kernel
theorem dL_law_349 : decode cL_law 349 = .ok (.ifCond .eq 7, 3) := by decide +kernel
theorem dL_law_352 : decode cL_law 352 = .ok (.iconst 1, 1) := by decide +kernel
theorem dL_law_353 : decode cL_law 353 = .ok (.goto 4, 3) := by decide +kernel
theorem dL_law_356 : decode cL_law 356 = .ok (.iconst 0, 1) := by decide +kernel
theorem dL_law_357 : decode cL_law 357 = .ok (.invokevirtual 93, 3) := by decide +kernel
theorem dL_law_360 : decode cL_law 360 = .ok (.if_icmp .eq 871, 3) := by decide +kernel
theorem dL_law_363 : decode cL_law 363 = .ok (.iconst 0, 1) := by decide +kernel
theorem dL_law_364 : decode cL_law 364 = .ok (.ireturn, 1) := by decide +kernel
theorem dL_law_365 : decode cL_law 365 = .ok (.aload_n 1, 1) := by decide +kernel
theorem dL_law_366 : decode cL_law 366 = .ok (.aload_n 0, 1) := by decide +kernel
theorem dL_law_367 : decode cL_law 367 = .ok (.iload 4, 2) := by decide +kernel
theorem dL_law_369 : decode cL_law 369 = .ok (.iconst 1, 1) := by decide +kernel
theorem dL_law_370 : decode cL_law 370 = .ok (.iadd, 1) := by decide +kernel
theorem dL_law_371 : decode cL_law 371 = .ok (.iaload, 1) := by decide +kernel
theorem dL_law_372 : decode cL_law 372 = .ok (.aload_n 3, 1) := by decide +kernel
theorem dL_law_373 : decode cL_law 373 = .ok (.invokestatic 94, 3) := by decide +kernel
theorem dL_law_376 : decode cL_law 376 = .ok (.istore 5, 2) := by decide +kernel
theorem dL_law_378 : decode cL_law 378 = .ok (.aload_n 2, 1) := by decide +kernel
theorem dL_law_379 : decode cL_law 379 = .ok (.aload_n 0, 1) := by decide +kernel
theorem dL_law_380 : decode cL_law 380 = .ok (.iload 4, 2) := by decide +kernel
theorem dL_law_382 : decode cL_law 382 = .ok (.iconst 1, 1) := by decide +kernel
theorem dL_law_383 : decode cL_law 383 = .ok (.iadd, 1) := by decide +kernel
theorem dL_law_384 : decode cL_law 384 = .ok (.iaload, 1) := by decide +kernel
theorem dL_law_385 : decode cL_law 385 = .ok (.invokevirtual 97, 3) := by decide +kernel
theorem dL_law_388 : decode cL_law 388 = .ok (.istore 6, 2) := by decide +kernel
theorem dL_law_390 : decode cL_law 390 = .ok (.aload_n 2, 1) := by decide +kernel
theorem dL_law_391 : decode cL_law 391 = .ok (.invokevirtual 81, 3) := by decide +kernel
theorem dL_law_394 : decode cL_law 394 = .ok (.iload 5, 2) := by decide +kernel
theorem dL_law_396 : decode cL_law 396 = .ok (.if_icmp .eq 5, 3) := by decide +kernel
theorem dL_law_399 : decode cL_law 399 = .ok (.iconst 0, 1) := by decide +kernel
theorem dL_law_400 : decode cL_law 400 = .ok (.ireturn, 1) := by decide +kernel
theorem dL_law_401 : decode cL_law 401 = .ok (.iload 5, 2) := by decide +kernel
theorem dL_law_403 : decode cL_law 403 = .ok (.ifCond .ne 15, 3) := by decide +kernel
theorem dL_law_406 : decode cL_law 406 = .ok (.aload_n 3, 1) := by decide +kernel
theorem dL_law_407 : decode cL_law 407 = .ok (.iconst 0, 1) := by decide +kernel
theorem dL_law_408 : decode cL_law 408 = .ok (.laload, 1) := by decide +kernel
theorem dL_law_409 : decode cL_law 409 = .ok (.iload 6, 2) := by decide +kernel
theorem dL_law_411 : decode cL_law 411 = .ok (.i2l, 1) := by decide +kernel
theorem dL_law_412 : decode cL_law 412 = .ok (.lcmp, 1) := by decide +kernel
theorem dL_law_413 : decode cL_law 413 = .ok (.ifCond .eq 5, 3) := by decide +kernel
theorem dL_law_416 : decode cL_law 416 = .ok (.iconst 0, 1) := by decide +kernel
theorem dL_law_417 : decode cL_law 417 = .ok (.ireturn, 1) := by decide +kernel
theorem dL_law_418 : decode cL_law 418 = .ok (.goto 813, 3) := by decide +kernel
theorem dL_law_421 : decode cL_law 421 = .ok (.aload_n 1, 1) := by decide +kernel
theorem dL_law_422 : decode cL_law 422 = .ok (.aload_n 0, 1) := by decide +kernel
theorem dL_law_423 : decode cL_law 423 = .ok (.iload 4, 2) := by decide +kernel
theorem dL_law_425 : decode cL_law 425 = .ok (.iconst 1, 1) := by decide +kernel
theorem dL_law_426 : decode cL_law 426 = .ok (.iadd, 1) := by decide +kernel
theorem dL_law_427 : decode cL_law 427 = .ok (.iaload, 1) := by decide +kernel
theorem dL_law_428 : decode cL_law 428 = .ok (.aload_n 0, 1) := by decide +kernel
theorem dL_law_429 : decode cL_law 429 = .ok (.iload 4, 2) := by decide +kernel
theorem dL_law_431 : decode cL_law 431 = .ok (.iconst 2, 1) := by decide +kernel
theorem dL_law_432 : decode cL_law 432 = .ok (.iadd, 1) := by decide +kernel
theorem dL_law_433 : decode cL_law 433 = .ok (.iaload, 1) := by decide +kernel
theorem dL_law_434 : decode cL_law 434 = .ok (.aload_n 0, 1) := by decide +kernel
theorem dL_law_435 : decode cL_law 435 = .ok (.iload 4, 2) := by decide +kernel
theorem dL_law_437 : decode cL_law 437 = .ok (.iconst 3, 1) := by decide +kernel
theorem dL_law_438 : decode cL_law 438 = .ok (.iadd, 1) := by decide +kernel
theorem dL_law_439 : decode cL_law 439 = .ok (.iaload, 1) := by decide +kernel
theorem dL_law_440 : decode cL_law 440 = .ok (.aload_n 0, 1) := by decide +kernel
theorem dL_law_441 : decode cL_law 441 = .ok (.iload 4, 2) := by decide +kernel
theorem dL_law_443 : decode cL_law 443 = .ok (.iconst 4, 1) := by decide +kernel
theorem dL_law_444 : decode cL_law 444 = .ok (.iadd, 1) := by decide +kernel
theorem dL_law_445 : decode cL_law 445 = .ok (.iaload, 1) := by decide +kernel
theorem dL_law_446 : decode cL_law 446 = .ok (.aload_n 3, 1) := by decide +kernel
theorem dL_law_447 : decode cL_law 447 = .ok (.invokestatic 98, 3) := by decide +kernel
theorem dL_law_450 : decode cL_law 450 = .ok (.istore 5, 2) := by decide +kernel
theorem dL_law_452 : decode cL_law 452 = .ok (.aload_n 2, 1) := by decide +kernel
theorem dL_law_453 : decode cL_law 453 = .ok (.aload_n 0, 1) := by decide +kernel
theorem dL_law_454 : decode cL_law 454 = .ok (.iload 4, 2) := by decide +kernel
theorem dL_law_456 : decode cL_law 456 = .ok (.iconst 1, 1) := by decide +kernel
theorem dL_law_457 : decode cL_law 457 = .ok (.iadd, 1) := by decide +kernel
theorem dL_law_458 : decode cL_law 458 = .ok (.iaload, 1) := by decide +kernel
theorem dL_law_459 : decode cL_law 459 = .ok (.aload_n 0, 1) := by decide +kernel
theorem dL_law_460 : decode cL_law 460 = .ok (.iload 4, 2) := by decide +kernel
theorem dL_law_462 : decode cL_law 462 = .ok (.iconst 2, 1) := by decide +kernel
theorem dL_law_463 : decode cL_law 463 = .ok (.iadd, 1) := by decide +kernel
theorem dL_law_464 : decode cL_law 464 = .ok (.iaload, 1) := by decide +kernel
theorem dL_law_465 : decode cL_law 465 = .ok (.aload_n 0, 1) := by decide +kernel
theorem dL_law_466 : decode cL_law 466 = .ok (.iload 4, 2) := by decide +kernel
theorem dL_law_468 : decode cL_law 468 = .ok (.iconst 3, 1) := by decide +kernel
theorem dL_law_469 : decode cL_law 469 = .ok (.iadd, 1) := by decide +kernel
theorem dL_law_470 : decode cL_law 470 = .ok (.iaload, 1) := by decide +kernel
theorem dL_law_471 : decode cL_law 471 = .ok (.aload_n 0, 1) := by decide +kernel
theorem dL_law_472 : decode cL_law 472 = .ok (.iload 4, 2) := by decide +kernel
theorem dL_law_474 : decode cL_law 474 = .ok (.iconst 4, 1) := by decide +kernel
theorem dL_law_475 : decode cL_law 475 = .ok (.iadd, 1) := by decide +kernel
theorem dL_law_476 : decode cL_law 476 = .ok (.iaload, 1) := by decide +kernel
theorem dL_law_477 : decode cL_law 477 = .ok (.invokevirtual 100, 3) := by decide +kernel
theorem dL_law_480 : decode cL_law 480 = .ok (.istore 6, 2) := by decide +kernel
theorem dL_law_482 : decode cL_law 482 = .ok (.aload_n 2, 1) := by decide +kernel
theorem dL_law_483 : decode cL_law 483 = .ok (.invokevirtual 81, 3) := by decide +kernel
theorem dL_law_486 : decode cL_law 486 = .ok (.iload 5, 2) := by decide +kernel
theorem dL_law_488 : decode cL_law 488 = .ok (.if_icmp .eq 5, 3) := by decide +kernel
theorem dL_law_491 : decode cL_law 491 = .ok (.iconst 0, 1) := by decide +kernel
theorem dL_law_492 : decode cL_law 492 = .ok (.ireturn, 1) := by decide +kernel
theorem dL_law_493 : decode cL_law 493 = .ok (.iload 5, 2) := by decide +kernel
theorem dL_law_495 : decode cL_law 495 = .ok (.ifCond .ne 15, 3) := by decide +kernel
theorem dL_law_498 : decode cL_law 498 = .ok (.aload_n 3, 1) := by decide +kernel
theorem dL_law_499 : decode cL_law 499 = .ok (.iconst 0, 1) := by decide +kernel
theorem dL_law_500 : decode cL_law 500 = .ok (.laload, 1) := by decide +kernel
theorem dL_law_501 : decode cL_law 501 = .ok (.iload 6, 2) := by decide +kernel
theorem dL_law_503 : decode cL_law 503 = .ok (.i2l, 1) := by decide +kernel
theorem dL_law_504 : decode cL_law 504 = .ok (.lcmp, 1) := by decide +kernel
theorem dL_law_505 : decode cL_law 505 = .ok (.ifCond .eq 5, 3) := by decide +kernel
theorem dL_law_508 : decode cL_law 508 = .ok (.iconst 0, 1) := by decide +kernel
theorem dL_law_509 : decode cL_law 509 = .ok (.ireturn, 1) := by decide +kernel
theorem dL_law_510 : decode cL_law 510 = .ok (.goto 721, 3) := by decide +kernel
theorem dL_law_513 : decode cL_law 513 = .ok (.aload_n 1, 1) := by decide +kernel
theorem dL_law_514 : decode cL_law 514 = .ok (.aload_n 0, 1) := by decide +kernel
theorem dL_law_515 : decode cL_law 515 = .ok (.iload 4, 2) := by decide +kernel
theorem dL_law_517 : decode cL_law 517 = .ok (.iconst 1, 1) := by decide +kernel
theorem dL_law_518 : decode cL_law 518 = .ok (.iadd, 1) := by decide +kernel
theorem dL_law_519 : decode cL_law 519 = .ok (.iaload, 1) := by decide +kernel
theorem dL_law_520 : decode cL_law 520 = .ok (.aload_n 0, 1) := by decide +kernel
theorem dL_law_521 : decode cL_law 521 = .ok (.iload 4, 2) := by decide +kernel
theorem dL_law_523 : decode cL_law 523 = .ok (.iconst 2, 1) := by decide +kernel
theorem dL_law_524 : decode cL_law 524 = .ok (.iadd, 1) := by decide +kernel
theorem dL_law_525 : decode cL_law 525 = .ok (.iaload, 1) := by decide +kernel
theorem dL_law_526 : decode cL_law 526 = .ok (.aload_n 0, 1) := by decide +kernel
theorem dL_law_527 : decode cL_law 527 = .ok (.iload 4, 2) := by decide +kernel
theorem dL_law_529 : decode cL_law 529 = .ok (.iconst 3, 1) := by decide +kernel
theorem dL_law_530 : decode cL_law 530 = .ok (.iadd, 1) := by decide +kernel
theorem dL_law_531 : decode cL_law 531 = .ok (.iaload, 1) := by decide +kernel
theorem dL_law_532 : decode cL_law 532 = .ok (.aload_n 0, 1) := by decide +kernel
theorem dL_law_533 : decode cL_law 533 = .ok (.iload 4, 2) := by decide +kernel
theorem dL_law_535 : decode cL_law 535 = .ok (.iconst 4, 1) := by decide +kernel
theorem dL_law_536 : decode cL_law 536 = .ok (.iadd, 1) := by decide +kernel
theorem dL_law_537 : decode cL_law 537 = .ok (.iaload, 1) := by decide +kernel
theorem dL_law_538 : decode cL_law 538 = .ok (.ifCond .eq 7, 3) := by decide +kernel
theorem dL_law_541 : decode cL_law 541 = .ok (.iconst 1, 1) := by decide +kernel
theorem dL_law_542 : decode cL_law 542 = .ok (.goto 4, 3) := by decide +kernel
theorem dL_law_545 : decode cL_law 545 = .ok (.iconst 0, 1) := by decide +kernel
theorem dL_law_546 : decode cL_law 546 = .ok (.aload_n 3, 1) := by decide +kernel
theorem dL_law_547 : decode cL_law 547 = .ok (.invokestatic 101, 3) := by decide +kernel
theorem dL_law_550 : decode cL_law 550 = .ok (.istore 5, 2) := by decide +kernel
theorem dL_law_552 : decode cL_law 552 = .ok (.aload_n 2, 1) := by decide +kernel
theorem dL_law_553 : decode cL_law 553 = .ok (.aload_n 0, 1) := by decide +kernel
theorem dL_law_554 : decode cL_law 554 = .ok (.iload 4, 2) := by decide +kernel
theorem dL_law_556 : decode cL_law 556 = .ok (.iconst 1, 1) := by decide +kernel
theorem dL_law_557 : decode cL_law 557 = .ok (.iadd, 1) := by decide +kernel
theorem dL_law_558 : decode cL_law 558 = .ok (.iaload, 1) := by decide +kernel
theorem dL_law_559 : decode cL_law 559 = .ok (.aload_n 0, 1) := by decide +kernel
theorem dL_law_560 : decode cL_law 560 = .ok (.iload 4, 2) := by decide +kernel
theorem dL_law_562 : decode cL_law 562 = .ok (.iconst 2, 1) := by decide +kernel
theorem dL_law_563 : decode cL_law 563 = .ok (.iadd, 1) := by decide +kernel
theorem dL_law_564 : decode cL_law 564 = .ok (.iaload, 1) := by decide +kernel
theorem dL_law_565 : decode cL_law 565 = .ok (.aload_n 0, 1) := by decide +kernel
theorem dL_law_566 : decode cL_law 566 = .ok (.iload 4, 2) := by decide +kernel
theorem dL_law_568 : decode cL_law 568 = .ok (.iconst 3, 1) := by decide +kernel
theorem dL_law_569 : decode cL_law 569 = .ok (.iadd, 1) := by decide +kernel
theorem dL_law_570 : decode cL_law 570 = .ok (.iaload, 1) := by decide +kernel
theorem dL_law_571 : decode cL_law 571 = .ok (.aload_n 0, 1) := by decide +kernel
theorem dL_law_572 : decode cL_law 572 = .ok (.iload 4, 2) := by decide +kernel
theorem dL_law_574 : decode cL_law 574 = .ok (.iconst 4, 1) := by decide +kernel
theorem dL_law_575 : decode cL_law 575 = .ok (.iadd, 1) := by decide +kernel
theorem dL_law_576 : decode cL_law 576 = .ok (.iaload, 1) := by decide +kernel
theorem dL_law_577 : decode cL_law 577 = .ok (.ifCond .eq 7, 3) := by decide +kernel
theorem dL_law_580 : decode cL_law 580 = .ok (.iconst 1, 1) := by decide +kernel
theorem dL_law_581 : decode cL_law 581 = .ok (.goto 4, 3) := by decide +kernel
theorem dL_law_584 : decode cL_law 584 = .ok (.iconst 0, 1) := by decide +kernel
theorem dL_law_585 : decode cL_law 585 = .ok (.invokevirtual 104, 3) := by decide +kernel
theorem dL_law_588 : decode cL_law 588 = .ok (.istore 6, 2) := by decide +kernel
theorem dL_law_590 : decode cL_law 590 = .ok (.aload_n 2, 1) := by decide +kernel
theorem dL_law_591 : decode cL_law 591 = .ok (.invokevirtual 81, 3) := by decide +kernel
theorem dL_law_594 : decode cL_law 594 = .ok (.iload 5, 2) := by decide +kernel
theorem dL_law_596 : decode cL_law 596 = .ok (.if_icmp .eq 5, 3) := by decide +kernel
theorem dL_law_599 : decode cL_law 599 = .ok (.iconst 0, 1) := by decide +kernel
theorem dL_law_600 : decode cL_law 600 = .ok (.ireturn, 1) := by decide +kernel
theorem dL_law_601 : decode cL_law 601 = .ok (.iload 5, 2) := by decide +kernel
theorem dL_law_603 : decode cL_law 603 = .ok (.ifCond .ne 15, 3) := by decide +kernel
theorem dL_law_606 : decode cL_law 606 = .ok (.aload_n 3, 1) := by decide +kernel
theorem dL_law_607 : decode cL_law 607 = .ok (.iconst 0, 1) := by decide +kernel
theorem dL_law_608 : decode cL_law 608 = .ok (.laload, 1) := by decide +kernel
theorem dL_law_609 : decode cL_law 609 = .ok (.iload 6, 2) := by decide +kernel
theorem dL_law_611 : decode cL_law 611 = .ok (.i2l, 1) := by decide +kernel
theorem dL_law_612 : decode cL_law 612 = .ok (.lcmp, 1) := by decide +kernel
theorem dL_law_613 : decode cL_law 613 = .ok (.ifCond .eq 5, 3) := by decide +kernel
theorem dL_law_616 : decode cL_law 616 = .ok (.iconst 0, 1) := by decide +kernel
theorem dL_law_617 : decode cL_law 617 = .ok (.ireturn, 1) := by decide +kernel
theorem dL_law_618 : decode cL_law 618 = .ok (.goto 613, 3) := by decide +kernel
theorem dL_law_621 : decode cL_law 621 = .ok (.aload_n 1, 1) := by decide +kernel
theorem dL_law_622 : decode cL_law 622 = .ok (.aload_n 0, 1) := by decide +kernel
theorem dL_law_623 : decode cL_law 623 = .ok (.iload 4, 2) := by decide +kernel
theorem dL_law_625 : decode cL_law 625 = .ok (.iconst 1, 1) := by decide +kernel
theorem dL_law_626 : decode cL_law 626 = .ok (.iadd, 1) := by decide +kernel
theorem dL_law_627 : decode cL_law 627 = .ok (.iaload, 1) := by decide +kernel
theorem dL_law_628 : decode cL_law 628 = .ok (.aload_n 0, 1) := by decide +kernel
theorem dL_law_629 : decode cL_law 629 = .ok (.iload 4, 2) := by decide +kernel
theorem dL_law_631 : decode cL_law 631 = .ok (.iconst 2, 1) := by decide +kernel
theorem dL_law_632 : decode cL_law 632 = .ok (.iadd, 1) := by decide +kernel
theorem dL_law_633 : decode cL_law 633 = .ok (.iaload, 1) := by decide +kernel
theorem dL_law_634 : decode cL_law 634 = .ok (.aload_n 3, 1) := by decide +kernel
theorem dL_law_635 : decode cL_law 635 = .ok (.invokestatic 105, 3) := by decide +kernel
theorem dL_law_638 : decode cL_law 638 = .ok (.istore 5, 2) := by decide +kernel
theorem dL_law_640 : decode cL_law 640 = .ok (.aload_n 2, 1) := by decide +kernel
theorem dL_law_641 : decode cL_law 641 = .ok (.aload_n 0, 1) := by decide +kernel
theorem dL_law_642 : decode cL_law 642 = .ok (.iload 4, 2) := by decide +kernel
theorem dL_law_644 : decode cL_law 644 = .ok (.iconst 1, 1) := by decide +kernel
theorem dL_law_645 : decode cL_law 645 = .ok (.iadd, 1) := by decide +kernel
theorem dL_law_646 : decode cL_law 646 = .ok (.iaload, 1) := by decide +kernel
theorem dL_law_647 : decode cL_law 647 = .ok (.aload_n 0, 1) := by decide +kernel
theorem dL_law_648 : decode cL_law 648 = .ok (.iload 4, 2) := by decide +kernel
theorem dL_law_650 : decode cL_law 650 = .ok (.iconst 2, 1) := by decide +kernel
theorem dL_law_651 : decode cL_law 651 = .ok (.iadd, 1) := by decide +kernel
theorem dL_law_652 : decode cL_law 652 = .ok (.iaload, 1) := by decide +kernel
theorem dL_law_653 : decode cL_law 653 = .ok (.invokevirtual 108, 3) := by decide +kernel
theorem dL_law_656 : decode cL_law 656 = .ok (.istore 6, 2) := by decide +kernel
theorem dL_law_658 : decode cL_law 658 = .ok (.aload_n 2, 1) := by decide +kernel
theorem dL_law_659 : decode cL_law 659 = .ok (.invokevirtual 81, 3) := by decide +kernel
theorem dL_law_662 : decode cL_law 662 = .ok (.iload 5, 2) := by decide +kernel
theorem dL_law_664 : decode cL_law 664 = .ok (.if_icmp .eq 5, 3) := by decide +kernel
theorem dL_law_667 : decode cL_law 667 = .ok (.iconst 0, 1) := by decide +kernel
theorem dL_law_668 : decode cL_law 668 = .ok (.ireturn, 1) := by decide +kernel
theorem dL_law_669 : decode cL_law 669 = .ok (.iload 5, 2) := by decide +kernel
theorem dL_law_671 : decode cL_law 671 = .ok (.ifCond .ne 15, 3) := by decide +kernel
theorem dL_law_674 : decode cL_law 674 = .ok (.aload_n 3, 1) := by decide +kernel
theorem dL_law_675 : decode cL_law 675 = .ok (.iconst 0, 1) := by decide +kernel
theorem dL_law_676 : decode cL_law 676 = .ok (.laload, 1) := by decide +kernel
theorem dL_law_677 : decode cL_law 677 = .ok (.iload 6, 2) := by decide +kernel
theorem dL_law_679 : decode cL_law 679 = .ok (.i2l, 1) := by decide +kernel
theorem dL_law_680 : decode cL_law 680 = .ok (.lcmp, 1) := by decide +kernel
theorem dL_law_681 : decode cL_law 681 = .ok (.ifCond .eq 5, 3) := by decide +kernel
theorem dL_law_684 : decode cL_law 684 = .ok (.iconst 0, 1) := by decide +kernel
theorem dL_law_685 : decode cL_law 685 = .ok (.ireturn, 1) := by decide +kernel
theorem dL_law_686 : decode cL_law 686 = .ok (.goto 545, 3) := by decide +kernel
theorem dL_law_689 : decode cL_law 689 = .ok (.aload_n 1, 1) := by decide +kernel
theorem dL_law_690 : decode cL_law 690 = .ok (.aload_n 0, 1) := by decide +kernel
theorem dL_law_691 : decode cL_law 691 = .ok (.iload 4, 2) := by decide +kernel
theorem dL_law_693 : decode cL_law 693 = .ok (.iconst 1, 1) := by decide +kernel
theorem dL_law_694 : decode cL_law 694 = .ok (.iadd, 1) := by decide +kernel
theorem dL_law_695 : decode cL_law 695 = .ok (.iaload, 1) := by decide +kernel
theorem dL_law_696 : decode cL_law 696 = .ok (.aload_n 3, 1) := by decide +kernel
theorem dL_law_697 : decode cL_law 697 = .ok (.invokestatic 109, 3) := by decide +kernel
theorem dL_law_700 : decode cL_law 700 = .ok (.istore 5, 2) := by decide +kernel
theorem dL_law_702 : decode cL_law 702 = .ok (.aload_n 2, 1) := by decide +kernel
theorem dL_law_703 : decode cL_law 703 = .ok (.aload_n 0, 1) := by decide +kernel
theorem dL_law_704 : decode cL_law 704 = .ok (.iload 4, 2) := by decide +kernel
theorem dL_law_706 : decode cL_law 706 = .ok (.iconst 1, 1) := by decide +kernel
theorem dL_law_707 : decode cL_law 707 = .ok (.iadd, 1) := by decide +kernel
theorem dL_law_708 : decode cL_law 708 = .ok (.iaload, 1) := by decide +kernel
theorem dL_law_709 : decode cL_law 709 = .ok (.invokevirtual 111, 3) := by decide +kernel
theorem dL_law_712 : decode cL_law 712 = .ok (.istore 6, 2) := by decide +kernel
theorem dL_law_714 : decode cL_law 714 = .ok (.aload_n 2, 1) := by decide +kernel
theorem dL_law_715 : decode cL_law 715 = .ok (.invokevirtual 81, 3) := by decide +kernel
theorem dL_law_718 : decode cL_law 718 = .ok (.iload 5, 2) := by decide +kernel
theorem dL_law_720 : decode cL_law 720 = .ok (.if_icmp .eq 5, 3) := by decide +kernel
theorem dL_law_723 : decode cL_law 723 = .ok (.iconst 0, 1) := by decide +kernel
theorem dL_law_724 : decode cL_law 724 = .ok (.ireturn, 1) := by decide +kernel
theorem dL_law_725 : decode cL_law 725 = .ok (.iload 5, 2) := by decide +kernel
theorem dL_law_727 : decode cL_law 727 = .ok (.ifCond .ne 15, 3) := by decide +kernel
theorem dL_law_730 : decode cL_law 730 = .ok (.aload_n 3, 1) := by decide +kernel
theorem dL_law_731 : decode cL_law 731 = .ok (.iconst 0, 1) := by decide +kernel
theorem dL_law_732 : decode cL_law 732 = .ok (.laload, 1) := by decide +kernel
theorem dL_law_733 : decode cL_law 733 = .ok (.iload 6, 2) := by decide +kernel
theorem dL_law_735 : decode cL_law 735 = .ok (.i2l, 1) := by decide +kernel
theorem dL_law_736 : decode cL_law 736 = .ok (.lcmp, 1) := by decide +kernel
theorem dL_law_737 : decode cL_law 737 = .ok (.ifCond .eq 5, 3) := by decide +kernel
theorem dL_law_740 : decode cL_law 740 = .ok (.iconst 0, 1) := by decide +kernel
theorem dL_law_741 : decode cL_law 741 = .ok (.ireturn, 1) := by decide +kernel
theorem dL_law_742 : decode cL_law 742 = .ok (.goto 489, 3) := by decide +kernel
theorem dL_law_745 : decode cL_law 745 = .ok (.aload_n 1, 1) := by decide +kernel
theorem dL_law_746 : decode cL_law 746 = .ok (.aload_n 0, 1) := by decide +kernel
theorem dL_law_747 : decode cL_law 747 = .ok (.iload 4, 2) := by decide +kernel
theorem dL_law_749 : decode cL_law 749 = .ok (.iconst 1, 1) := by decide +kernel
theorem dL_law_750 : decode cL_law 750 = .ok (.iadd, 1) := by decide +kernel
theorem dL_law_751 : decode cL_law 751 = .ok (.iaload, 1) := by decide +kernel
theorem dL_law_752 : decode cL_law 752 = .ok (.aload_n 0, 1) := by decide +kernel
theorem dL_law_753 : decode cL_law 753 = .ok (.iload 4, 2) := by decide +kernel
theorem dL_law_755 : decode cL_law 755 = .ok (.iconst 2, 1) := by decide +kernel
theorem dL_law_756 : decode cL_law 756 = .ok (.iadd, 1) := by decide +kernel
theorem dL_law_757 : decode cL_law 757 = .ok (.iaload, 1) := by decide +kernel
theorem dL_law_758 : decode cL_law 758 = .ok (.invokestatic 112, 3) := by decide +kernel
theorem dL_law_761 : decode cL_law 761 = .ok (.istore 5, 2) := by decide +kernel
theorem dL_law_763 : decode cL_law 763 = .ok (.aload_n 2, 1) := by decide +kernel
theorem dL_law_764 : decode cL_law 764 = .ok (.aload_n 0, 1) := by decide +kernel
theorem dL_law_765 : decode cL_law 765 = .ok (.iload 4, 2) := by decide +kernel
theorem dL_law_767 : decode cL_law 767 = .ok (.iconst 1, 1) := by decide +kernel
theorem dL_law_768 : decode cL_law 768 = .ok (.iadd, 1) := by decide +kernel
theorem dL_law_769 : decode cL_law 769 = .ok (.iaload, 1) := by decide +kernel
theorem dL_law_770 : decode cL_law 770 = .ok (.aload_n 0, 1) := by decide +kernel
theorem dL_law_771 : decode cL_law 771 = .ok (.iload 4, 2) := by decide +kernel
theorem dL_law_773 : decode cL_law 773 = .ok (.iconst 2, 1) := by decide +kernel
theorem dL_law_774 : decode cL_law 774 = .ok (.iadd, 1) := by decide +kernel
theorem dL_law_775 : decode cL_law 775 = .ok (.iaload, 1) := by decide +kernel
theorem dL_law_776 : decode cL_law 776 = .ok (.invokevirtual 114, 3) := by decide +kernel
theorem dL_law_779 : decode cL_law 779 = .ok (.aload_n 2, 1) := by decide +kernel
theorem dL_law_780 : decode cL_law 780 = .ok (.invokevirtual 81, 3) := by decide +kernel
theorem dL_law_783 : decode cL_law 783 = .ok (.iload 5, 2) := by decide +kernel
theorem dL_law_785 : decode cL_law 785 = .ok (.if_icmp .eq 5, 3) := by decide +kernel
theorem dL_law_788 : decode cL_law 788 = .ok (.iconst 0, 1) := by decide +kernel
theorem dL_law_789 : decode cL_law 789 = .ok (.ireturn, 1) := by decide +kernel
theorem dL_law_790 : decode cL_law 790 = .ok (.goto 441, 3) := by decide +kernel
theorem dL_law_793 : decode cL_law 793 = .ok (.aload_n 1, 1) := by decide +kernel
theorem dL_law_794 : decode cL_law 794 = .ok (.aload_n 0, 1) := by decide +kernel
theorem dL_law_795 : decode cL_law 795 = .ok (.iload 4, 2) := by decide +kernel
theorem dL_law_797 : decode cL_law 797 = .ok (.iconst 1, 1) := by decide +kernel
theorem dL_law_798 : decode cL_law 798 = .ok (.iadd, 1) := by decide +kernel
theorem dL_law_799 : decode cL_law 799 = .ok (.iaload, 1) := by decide +kernel
theorem dL_law_800 : decode cL_law 800 = .ok (.aload_n 0, 1) := by decide +kernel
theorem dL_law_801 : decode cL_law 801 = .ok (.iload 4, 2) := by decide +kernel
theorem dL_law_803 : decode cL_law 803 = .ok (.iconst 2, 1) := by decide +kernel
theorem dL_law_804 : decode cL_law 804 = .ok (.iadd, 1) := by decide +kernel
theorem dL_law_805 : decode cL_law 805 = .ok (.iaload, 1) := by decide +kernel
theorem dL_law_806 : decode cL_law 806 = .ok (.aload_n 3, 1) := by decide +kernel
theorem dL_law_807 : decode cL_law 807 = .ok (.invokestatic 115, 3) := by decide +kernel
theorem dL_law_810 : decode cL_law 810 = .ok (.istore 5, 2) := by decide +kernel
theorem dL_law_812 : decode cL_law 812 = .ok (.aload_n 2, 1) := by decide +kernel
theorem dL_law_813 : decode cL_law 813 = .ok (.aload_n 0, 1) := by decide +kernel
theorem dL_law_814 : decode cL_law 814 = .ok (.iload 4, 2) := by decide +kernel
theorem dL_law_816 : decode cL_law 816 = .ok (.iconst 1, 1) := by decide +kernel
theorem dL_law_817 : decode cL_law 817 = .ok (.iadd, 1) := by decide +kernel
theorem dL_law_818 : decode cL_law 818 = .ok (.iaload, 1) := by decide +kernel
theorem dL_law_819 : decode cL_law 819 = .ok (.aload_n 0, 1) := by decide +kernel
theorem dL_law_820 : decode cL_law 820 = .ok (.iload 4, 2) := by decide +kernel
theorem dL_law_822 : decode cL_law 822 = .ok (.iconst 2, 1) := by decide +kernel
theorem dL_law_823 : decode cL_law 823 = .ok (.iadd, 1) := by decide +kernel
theorem dL_law_824 : decode cL_law 824 = .ok (.iaload, 1) := by decide +kernel
theorem dL_law_825 : decode cL_law 825 = .ok (.invokevirtual 117, 3) := by decide +kernel
theorem dL_law_828 : decode cL_law 828 = .ok (.istore 6, 2) := by decide +kernel
theorem dL_law_830 : decode cL_law 830 = .ok (.aload_n 2, 1) := by decide +kernel
theorem dL_law_831 : decode cL_law 831 = .ok (.invokevirtual 81, 3) := by decide +kernel
theorem dL_law_834 : decode cL_law 834 = .ok (.iload 5, 2) := by decide +kernel
theorem dL_law_836 : decode cL_law 836 = .ok (.if_icmp .eq 5, 3) := by decide +kernel
theorem dL_law_839 : decode cL_law 839 = .ok (.iconst 0, 1) := by decide +kernel
theorem dL_law_840 : decode cL_law 840 = .ok (.ireturn, 1) := by decide +kernel
theorem dL_law_841 : decode cL_law 841 = .ok (.iload 5, 2) := by decide +kernel
theorem dL_law_843 : decode cL_law 843 = .ok (.ifCond .ne 15, 3) := by decide +kernel
theorem dL_law_846 : decode cL_law 846 = .ok (.aload_n 3, 1) := by decide +kernel
theorem dL_law_847 : decode cL_law 847 = .ok (.iconst 0, 1) := by decide +kernel
theorem dL_law_848 : decode cL_law 848 = .ok (.laload, 1) := by decide +kernel
theorem dL_law_849 : decode cL_law 849 = .ok (.iload 6, 2) := by decide +kernel
theorem dL_law_851 : decode cL_law 851 = .ok (.i2l, 1) := by decide +kernel
theorem dL_law_852 : decode cL_law 852 = .ok (.lcmp, 1) := by decide +kernel
theorem dL_law_853 : decode cL_law 853 = .ok (.ifCond .eq 5, 3) := by decide +kernel
theorem dL_law_856 : decode cL_law 856 = .ok (.iconst 0, 1) := by decide +kernel
theorem dL_law_857 : decode cL_law 857 = .ok (.ireturn, 1) := by decide +kernel
theorem dL_law_858 : decode cL_law 858 = .ok (.goto 373, 3) := by decide +kernel
theorem dL_law_861 : decode cL_law 861 = .ok (.aload_n 1, 1) := by decide +kernel
theorem dL_law_862 : decode cL_law 862 = .ok (.aload_n 0, 1) := by decide +kernel
theorem dL_law_863 : decode cL_law 863 = .ok (.iload 4, 2) := by decide +kernel
theorem dL_law_865 : decode cL_law 865 = .ok (.iconst 1, 1) := by decide +kernel
theorem dL_law_866 : decode cL_law 866 = .ok (.iadd, 1) := by decide +kernel
theorem dL_law_867 : decode cL_law 867 = .ok (.iaload, 1) := by decide +kernel
theorem dL_law_868 : decode cL_law 868 = .ok (.aload_n 0, 1) := by decide +kernel
theorem dL_law_869 : decode cL_law 869 = .ok (.iload 4, 2) := by decide +kernel
theorem dL_law_871 : decode cL_law 871 = .ok (.iconst 2, 1) := by decide +kernel
theorem dL_law_872 : decode cL_law 872 = .ok (.iadd, 1) := by decide +kernel
theorem dL_law_873 : decode cL_law 873 = .ok (.iaload, 1) := by decide +kernel
theorem dL_law_874 : decode cL_law 874 = .ok (.aload_n 3, 1) := by decide +kernel
theorem dL_law_875 : decode cL_law 875 = .ok (.invokestatic 118, 3) := by decide +kernel
theorem dL_law_878 : decode cL_law 878 = .ok (.istore 5, 2) := by decide +kernel
theorem dL_law_880 : decode cL_law 880 = .ok (.aload_n 2, 1) := by decide +kernel
theorem dL_law_881 : decode cL_law 881 = .ok (.aload_n 0, 1) := by decide +kernel
theorem dL_law_882 : decode cL_law 882 = .ok (.iload 4, 2) := by decide +kernel
theorem dL_law_884 : decode cL_law 884 = .ok (.iconst 1, 1) := by decide +kernel
theorem dL_law_885 : decode cL_law 885 = .ok (.iadd, 1) := by decide +kernel
theorem dL_law_886 : decode cL_law 886 = .ok (.iaload, 1) := by decide +kernel
theorem dL_law_887 : decode cL_law 887 = .ok (.aload_n 0, 1) := by decide +kernel
theorem dL_law_888 : decode cL_law 888 = .ok (.iload 4, 2) := by decide +kernel
theorem dL_law_890 : decode cL_law 890 = .ok (.iconst 2, 1) := by decide +kernel
theorem dL_law_891 : decode cL_law 891 = .ok (.iadd, 1) := by decide +kernel
theorem dL_law_892 : decode cL_law 892 = .ok (.iaload, 1) := by decide +kernel
theorem dL_law_893 : decode cL_law 893 = .ok (.invokevirtual 120, 3) := by decide +kernel
theorem dL_law_896 : decode cL_law 896 = .ok (.istore 6, 2) := by decide +kernel
theorem dL_law_898 : decode cL_law 898 = .ok (.aload_n 2, 1) := by decide +kernel
theorem dL_law_899 : decode cL_law 899 = .ok (.invokevirtual 81, 3) := by decide +kernel
theorem dL_law_902 : decode cL_law 902 = .ok (.iload 5, 2) := by decide +kernel
theorem dL_law_904 : decode cL_law 904 = .ok (.if_icmp .eq 5, 3) := by decide +kernel
theorem dL_law_907 : decode cL_law 907 = .ok (.iconst 0, 1) := by decide +kernel
theorem dL_law_908 : decode cL_law 908 = .ok (.ireturn, 1) := by decide +kernel
theorem dL_law_909 : decode cL_law 909 = .ok (.iload 5, 2) := by decide +kernel
theorem dL_law_911 : decode cL_law 911 = .ok (.ifCond .ne 15, 3) := by decide +kernel
theorem dL_law_914 : decode cL_law 914 = .ok (.aload_n 3, 1) := by decide +kernel
theorem dL_law_915 : decode cL_law 915 = .ok (.iconst 0, 1) := by decide +kernel
theorem dL_law_916 : decode cL_law 916 = .ok (.laload, 1) := by decide +kernel
theorem dL_law_917 : decode cL_law 917 = .ok (.iload 6, 2) := by decide +kernel
theorem dL_law_919 : decode cL_law 919 = .ok (.i2l, 1) := by decide +kernel
theorem dL_law_920 : decode cL_law 920 = .ok (.lcmp, 1) := by decide +kernel
theorem dL_law_921 : decode cL_law 921 = .ok (.ifCond .eq 5, 3) := by decide +kernel
theorem dL_law_924 : decode cL_law 924 = .ok (.iconst 0, 1) := by decide +kernel
theorem dL_law_925 : decode cL_law 925 = .ok (.ireturn, 1) := by decide +kernel
theorem dL_law_926 : decode cL_law 926 = .ok (.goto 305, 3) := by decide +kernel
theorem dL_law_929 : decode cL_law 929 = .ok (.aload_n 1, 1) := by decide +kernel
theorem dL_law_930 : decode cL_law 930 = .ok (.aload_n 0, 1) := by decide +kernel
theorem dL_law_931 : decode cL_law 931 = .ok (.iload 4, 2) := by decide +kernel
theorem dL_law_933 : decode cL_law 933 = .ok (.iconst 1, 1) := by decide +kernel
theorem dL_law_934 : decode cL_law 934 = .ok (.iadd, 1) := by decide +kernel
theorem dL_law_935 : decode cL_law 935 = .ok (.iaload, 1) := by decide +kernel
theorem dL_law_936 : decode cL_law 936 = .ok (.aload_n 0, 1) := by decide +kernel
theorem dL_law_937 : decode cL_law 937 = .ok (.iload 4, 2) := by decide +kernel
theorem dL_law_939 : decode cL_law 939 = .ok (.iconst 2, 1) := by decide +kernel
theorem dL_law_940 : decode cL_law 940 = .ok (.iadd, 1) := by decide +kernel
theorem dL_law_941 : decode cL_law 941 = .ok (.iaload, 1) := by decide +kernel
theorem dL_law_942 : decode cL_law 942 = .ok (.aload_n 0, 1) := by decide +kernel
theorem dL_law_943 : decode cL_law 943 = .ok (.iload 4, 2) := by decide +kernel
theorem dL_law_945 : decode cL_law 945 = .ok (.iconst 3, 1) := by decide +kernel
theorem dL_law_946 : decode cL_law 946 = .ok (.iadd, 1) := by decide +kernel
theorem dL_law_947 : decode cL_law 947 = .ok (.iaload, 1) := by decide +kernel
theorem dL_law_948 : decode cL_law 948 = .ok (.aload_n 3, 1) := by decide +kernel
theorem dL_law_949 : decode cL_law 949 = .ok (.invokestatic 121, 3) := by decide +kernel
theorem dL_law_952 : decode cL_law 952 = .ok (.istore 5, 2) := by decide +kernel
theorem dL_law_954 : decode cL_law 954 = .ok (.aload_n 2, 1) := by decide +kernel
theorem dL_law_955 : decode cL_law 955 = .ok (.aload_n 0, 1) := by decide +kernel
theorem dL_law_956 : decode cL_law 956 = .ok (.iload 4, 2) := by decide +kernel
theorem dL_law_958 : decode cL_law 958 = .ok (.iconst 1, 1) := by decide +kernel
theorem dL_law_959 : decode cL_law 959 = .ok (.iadd, 1) := by decide +kernel
theorem dL_law_960 : decode cL_law 960 = .ok (.iaload, 1) := by decide +kernel
theorem dL_law_961 : decode cL_law 961 = .ok (.aload_n 0, 1) := by decide +kernel
theorem dL_law_962 : decode cL_law 962 = .ok (.iload 4, 2) := by decide +kernel
theorem dL_law_964 : decode cL_law 964 = .ok (.iconst 2, 1) := by decide +kernel
theorem dL_law_965 : decode cL_law 965 = .ok (.iadd, 1) := by decide +kernel
theorem dL_law_966 : decode cL_law 966 = .ok (.iaload, 1) := by decide +kernel
theorem dL_law_967 : decode cL_law 967 = .ok (.aload_n 0, 1) := by decide +kernel
theorem dL_law_968 : decode cL_law 968 = .ok (.iload 4, 2) := by decide +kernel
theorem dL_law_970 : decode cL_law 970 = .ok (.iconst 3, 1) := by decide +kernel
theorem dL_law_971 : decode cL_law 971 = .ok (.iadd, 1) := by decide +kernel
theorem dL_law_972 : decode cL_law 972 = .ok (.iaload, 1) := by decide +kernel
theorem dL_law_973 : decode cL_law 973 = .ok (.invokevirtual 124, 3) := by decide +kernel
theorem dL_law_976 : decode cL_law 976 = .ok (.istore 6, 2) := by decide +kernel
theorem dL_law_978 : decode cL_law 978 = .ok (.aload_n 2, 1) := by decide +kernel
theorem dL_law_979 : decode cL_law 979 = .ok (.invokevirtual 81, 3) := by decide +kernel
theorem dL_law_982 : decode cL_law 982 = .ok (.iload 5, 2) := by decide +kernel
theorem dL_law_984 : decode cL_law 984 = .ok (.if_icmp .eq 5, 3) := by decide +kernel
theorem dL_law_987 : decode cL_law 987 = .ok (.iconst 0, 1) := by decide +kernel
theorem dL_law_988 : decode cL_law 988 = .ok (.ireturn, 1) := by decide +kernel
theorem dL_law_989 : decode cL_law 989 = .ok (.iload 5, 2) := by decide +kernel
theorem dL_law_991 : decode cL_law 991 = .ok (.ifCond .ne 15, 3) := by decide +kernel
theorem dL_law_994 : decode cL_law 994 = .ok (.aload_n 3, 1) := by decide +kernel
theorem dL_law_995 : decode cL_law 995 = .ok (.iconst 0, 1) := by decide +kernel
theorem dL_law_996 : decode cL_law 996 = .ok (.laload, 1) := by decide +kernel
theorem dL_law_997 : decode cL_law 997 = .ok (.iload 6, 2) := by decide +kernel
theorem dL_law_999 : decode cL_law 999 = .ok (.i2l, 1) := by decide +kernel
theorem dL_law_1000 : decode cL_law 1000 = .ok (.lcmp, 1) := by decide +kernel
theorem dL_law_1001 : decode cL_law 1001 = .ok (.ifCond .eq 5, 3) := by decide +kernel
theorem dL_law_1004 : decode cL_law 1004 = .ok (.iconst 0, 1) := by decide +kernel
theorem dL_law_1005 : decode cL_law 1005 = .ok (.ireturn, 1) := by decide +kernel
theorem dL_law_1006 : decode cL_law 1006 = .ok (.goto 225, 3) := by decide +kernel
theorem dL_law_1009 : decode cL_law 1009 = .ok (.aload_n 1, 1) := by decide +kernel
theorem dL_law_1010 : decode cL_law 1010 = .ok (.aload_n 0, 1) := by decide +kernel
theorem dL_law_1011 : decode cL_law 1011 = .ok (.iload 4, 2) := by decide +kernel
theorem dL_law_1013 : decode cL_law 1013 = .ok (.iconst 1, 1) := by decide +kernel
theorem dL_law_1014 : decode cL_law 1014 = .ok (.iadd, 1) := by decide +kernel
theorem dL_law_1015 : decode cL_law 1015 = .ok (.iaload, 1) := by decide +kernel
theorem dL_law_1016 : decode cL_law 1016 = .ok (.aload_n 0, 1) := by decide +kernel
theorem dL_law_1017 : decode cL_law 1017 = .ok (.iload 4, 2) := by decide +kernel
theorem dL_law_1019 : decode cL_law 1019 = .ok (.iconst 2, 1) := by decide +kernel
theorem dL_law_1020 : decode cL_law 1020 = .ok (.iadd, 1) := by decide +kernel
theorem dL_law_1021 : decode cL_law 1021 = .ok (.iaload, 1) := by decide +kernel
theorem dL_law_1022 : decode cL_law 1022 = .ok (.aload_n 0, 1) := by decide +kernel
theorem dL_law_1023 : decode cL_law 1023 = .ok (.iload 4, 2) := by decide +kernel
theorem dL_law_1025 : decode cL_law 1025 = .ok (.iconst 3, 1) := by decide +kernel
theorem dL_law_1026 : decode cL_law 1026 = .ok (.iadd, 1) := by decide +kernel
theorem dL_law_1027 : decode cL_law 1027 = .ok (.iaload, 1) := by decide +kernel
theorem dL_law_1028 : decode cL_law 1028 = .ok (.aload_n 0, 1) := by decide +kernel
theorem dL_law_1029 : decode cL_law 1029 = .ok (.iload 4, 2) := by decide +kernel
theorem dL_law_1031 : decode cL_law 1031 = .ok (.iconst 4, 1) := by decide +kernel
theorem dL_law_1032 : decode cL_law 1032 = .ok (.iadd, 1) := by decide +kernel
theorem dL_law_1033 : decode cL_law 1033 = .ok (.iaload, 1) := by decide +kernel
theorem dL_law_1034 : decode cL_law 1034 = .ok (.aload_n 3, 1) := by decide +kernel
theorem dL_law_1035 : decode cL_law 1035 = .ok (.invokestatic 125, 3) := by decide +kernel
theorem dL_law_1038 : decode cL_law 1038 = .ok (.istore 5, 2) := by decide +kernel
theorem dL_law_1040 : decode cL_law 1040 = .ok (.aload_n 2, 1) := by decide +kernel
theorem dL_law_1041 : decode cL_law 1041 = .ok (.aload_n 0, 1) := by decide +kernel
theorem dL_law_1042 : decode cL_law 1042 = .ok (.iload 4, 2) := by decide +kernel
theorem dL_law_1044 : decode cL_law 1044 = .ok (.iconst 1, 1) := by decide +kernel
theorem dL_law_1045 : decode cL_law 1045 = .ok (.iadd, 1) := by decide +kernel
theorem dL_law_1046 : decode cL_law 1046 = .ok (.iaload, 1) := by decide +kernel
theorem dL_law_1047 : decode cL_law 1047 = .ok (.aload_n 0, 1) := by decide +kernel
theorem dL_law_1048 : decode cL_law 1048 = .ok (.iload 4, 2) := by decide +kernel
theorem dL_law_1050 : decode cL_law 1050 = .ok (.iconst 2, 1) := by decide +kernel
theorem dL_law_1051 : decode cL_law 1051 = .ok (.iadd, 1) := by decide +kernel
theorem dL_law_1052 : decode cL_law 1052 = .ok (.iaload, 1) := by decide +kernel
theorem dL_law_1053 : decode cL_law 1053 = .ok (.aload_n 0, 1) := by decide +kernel
theorem dL_law_1054 : decode cL_law 1054 = .ok (.iload 4, 2) := by decide +kernel
theorem dL_law_1056 : decode cL_law 1056 = .ok (.iconst 3, 1) := by decide +kernel
theorem dL_law_1057 : decode cL_law 1057 = .ok (.iadd, 1) := by decide +kernel
theorem dL_law_1058 : decode cL_law 1058 = .ok (.iaload, 1) := by decide +kernel
theorem dL_law_1059 : decode cL_law 1059 = .ok (.aload_n 0, 1) := by decide +kernel
theorem dL_law_1060 : decode cL_law 1060 = .ok (.iload 4, 2) := by decide +kernel
theorem dL_law_1062 : decode cL_law 1062 = .ok (.iconst 4, 1) := by decide +kernel
theorem dL_law_1063 : decode cL_law 1063 = .ok (.iadd, 1) := by decide +kernel
theorem dL_law_1064 : decode cL_law 1064 = .ok (.iaload, 1) := by decide +kernel
theorem dL_law_1065 : decode cL_law 1065 = .ok (.invokevirtual 127, 3) := by decide +kernel
theorem dL_law_1068 : decode cL_law 1068 = .ok (.istore 6, 2) := by decide +kernel
theorem dL_law_1070 : decode cL_law 1070 = .ok (.aload_n 2, 1) := by decide +kernel
theorem dL_law_1071 : decode cL_law 1071 = .ok (.invokevirtual 81, 3) := by decide +kernel
theorem dL_law_1074 : decode cL_law 1074 = .ok (.iload 5, 2) := by decide +kernel
theorem dL_law_1076 : decode cL_law 1076 = .ok (.if_icmp .eq 5, 3) := by decide +kernel
theorem dL_law_1079 : decode cL_law 1079 = .ok (.iconst 0, 1) := by decide +kernel
theorem dL_law_1080 : decode cL_law 1080 = .ok (.ireturn, 1) := by decide +kernel
theorem dL_law_1081 : decode cL_law 1081 = .ok (.iload 5, 2) := by decide +kernel
theorem dL_law_1083 : decode cL_law 1083 = .ok (.ifCond .ne 22, 3) := by decide +kernel
theorem dL_law_1086 : decode cL_law 1086 = .ok (.aload_n 3, 1) := by decide +kernel
theorem dL_law_1087 : decode cL_law 1087 = .ok (.iconst 0, 1) := by decide +kernel
theorem dL_law_1088 : decode cL_law 1088 = .ok (.laload, 1) := by decide +kernel
theorem dL_law_1089 : decode cL_law 1089 = .ok (.iload 6, 2) := by decide +kernel
theorem dL_law_1091 : decode cL_law 1091 = .ok (.ifCond .eq 7, 3) := by decide +kernel
theorem dL_law_1094 : decode cL_law 1094 = .ok (.lconst 1, 1) := by decide +kernel
theorem dL_law_1095 : decode cL_law 1095 = .ok (.goto 4, 3) := by decide +kernel
theorem dL_law_1098 : decode cL_law 1098 = .ok (.lconst 0, 1) := by decide +kernel
theorem dL_law_1099 : decode cL_law 1099 = .ok (.lcmp, 1) := by decide +kernel
theorem dL_law_1100 : decode cL_law 1100 = .ok (.ifCond .eq 5, 3) := by decide +kernel
theorem dL_law_1103 : decode cL_law 1103 = .ok (.iconst 0, 1) := by decide +kernel
theorem dL_law_1104 : decode cL_law 1104 = .ok (.ireturn, 1) := by decide +kernel
theorem dL_law_1105 : decode cL_law 1105 = .ok (.goto 126, 3) := by decide +kernel
theorem dL_law_1108 : decode cL_law 1108 = .ok (.aload_n 1, 1) := by decide +kernel
theorem dL_law_1109 : decode cL_law 1109 = .ok (.aload_n 0, 1) := by decide +kernel
theorem dL_law_1110 : decode cL_law 1110 = .ok (.iload 4, 2) := by decide +kernel
theorem dL_law_1112 : decode cL_law 1112 = .ok (.iconst 1, 1) := by decide +kernel
theorem dL_law_1113 : decode cL_law 1113 = .ok (.iadd, 1) := by decide +kernel
theorem dL_law_1114 : decode cL_law 1114 = .ok (.iaload, 1) := by decide +kernel
theorem dL_law_1115 : decode cL_law 1115 = .ok (.aload_n 3, 1) := by decide +kernel
theorem dL_law_1116 : decode cL_law 1116 = .ok (.invokestatic 128, 3) := by decide +kernel
theorem dL_law_1119 : decode cL_law 1119 = .ok (.istore 5, 2) := by decide +kernel
theorem dL_law_1121 : decode cL_law 1121 = .ok (.aload_n 2, 1) := by decide +kernel
theorem dL_law_1122 : decode cL_law 1122 = .ok (.aload_n 0, 1) := by decide +kernel
theorem dL_law_1123 : decode cL_law 1123 = .ok (.iload 4, 2) := by decide +kernel
theorem dL_law_1125 : decode cL_law 1125 = .ok (.iconst 1, 1) := by decide +kernel
theorem dL_law_1126 : decode cL_law 1126 = .ok (.iadd, 1) := by decide +kernel
theorem dL_law_1127 : decode cL_law 1127 = .ok (.iaload, 1) := by decide +kernel
theorem dL_law_1128 : decode cL_law 1128 = .ok (.invokevirtual 130, 3) := by decide +kernel
theorem dL_law_1131 : decode cL_law 1131 = .ok (.lstore 6, 2) := by decide +kernel
theorem dL_law_1133 : decode cL_law 1133 = .ok (.aload_n 2, 1) := by decide +kernel
theorem dL_law_1134 : decode cL_law 1134 = .ok (.invokevirtual 81, 3) := by decide +kernel
theorem dL_law_1137 : decode cL_law 1137 = .ok (.iload 5, 2) := by decide +kernel
theorem dL_law_1139 : decode cL_law 1139 = .ok (.if_icmp .eq 5, 3) := by decide +kernel
theorem dL_law_1142 : decode cL_law 1142 = .ok (.iconst 0, 1) := by decide +kernel
theorem dL_law_1143 : decode cL_law 1143 = .ok (.ireturn, 1) := by decide +kernel
theorem dL_law_1144 : decode cL_law 1144 = .ok (.iload 5, 2) := by decide +kernel
theorem dL_law_1146 : decode cL_law 1146 = .ok (.ifCond .ne 14, 3) := by decide +kernel
theorem dL_law_1149 : decode cL_law 1149 = .ok (.aload_n 3, 1) := by decide +kernel
theorem dL_law_1150 : decode cL_law 1150 = .ok (.iconst 0, 1) := by decide +kernel
theorem dL_law_1151 : decode cL_law 1151 = .ok (.laload, 1) := by decide +kernel
theorem dL_law_1152 : decode cL_law 1152 = .ok (.lload 6, 2) := by decide +kernel
theorem dL_law_1154 : decode cL_law 1154 = .ok (.lcmp, 1) := by decide +kernel
theorem dL_law_1155 : decode cL_law 1155 = .ok (.ifCond .eq 5, 3) := by decide +kernel
theorem dL_law_1158 : decode cL_law 1158 = .ok (.iconst 0, 1) := by decide +kernel
theorem dL_law_1159 : decode cL_law 1159 = .ok (.ireturn, 1) := by decide +kernel
theorem dL_law_1160 : decode cL_law 1160 = .ok (.goto 71, 3) := by decide +kernel
theorem dL_law_1163 : decode cL_law 1163 = .ok (.aload_n 1, 1) := by decide +kernel
theorem dL_law_1164 : decode cL_law 1164 = .ok (.aload_n 0, 1) := by decide +kernel
theorem dL_law_1165 : decode cL_law 1165 = .ok (.iload 4, 2) := by decide +kernel
theorem dL_law_1167 : decode cL_law 1167 = .ok (.iconst 1, 1) := by decide +kernel
theorem dL_law_1168 : decode cL_law 1168 = .ok (.iadd, 1) := by decide +kernel
theorem dL_law_1169 : decode cL_law 1169 = .ok (.iaload, 1) := by decide +kernel
theorem dL_law_1170 : decode cL_law 1170 = .ok (.aload_n 0, 1) := by decide +kernel
theorem dL_law_1171 : decode cL_law 1171 = .ok (.iload 4, 2) := by decide +kernel
theorem dL_law_1173 : decode cL_law 1173 = .ok (.iconst 2, 1) := by decide +kernel
theorem dL_law_1174 : decode cL_law 1174 = .ok (.iadd, 1) := by decide +kernel
theorem dL_law_1175 : decode cL_law 1175 = .ok (.iaload, 1) := by decide +kernel
theorem dL_law_1176 : decode cL_law 1176 = .ok (.aload_n 3, 1) := by decide +kernel
theorem dL_law_1177 : decode cL_law 1177 = .ok (.invokestatic 131, 3) := by decide +kernel
theorem dL_law_1180 : decode cL_law 1180 = .ok (.istore 5, 2) := by decide +kernel
theorem dL_law_1182 : decode cL_law 1182 = .ok (.aload_n 2, 1) := by decide +kernel
theorem dL_law_1183 : decode cL_law 1183 = .ok (.aload_n 0, 1) := by decide +kernel
theorem dL_law_1184 : decode cL_law 1184 = .ok (.iload 4, 2) := by decide +kernel
theorem dL_law_1186 : decode cL_law 1186 = .ok (.iconst 1, 1) := by decide +kernel
theorem dL_law_1187 : decode cL_law 1187 = .ok (.iadd, 1) := by decide +kernel
theorem dL_law_1188 : decode cL_law 1188 = .ok (.iaload, 1) := by decide +kernel
theorem dL_law_1189 : decode cL_law 1189 = .ok (.aload_n 0, 1) := by decide +kernel
theorem dL_law_1190 : decode cL_law 1190 = .ok (.iload 4, 2) := by decide +kernel
theorem dL_law_1192 : decode cL_law 1192 = .ok (.iconst 2, 1) := by decide +kernel
end
section
theorem dL_law_1193 : decode cL_law 1193 = .ok (.iadd, 1) := by decide +kernel
theorem dL_law_1194 : decode cL_law 1194 = .ok (.iaload, 1) := by decide +kernel
theorem dL_law_1195 : decode cL_law 1195 = .ok (.invokevirtual 133, 3) := by decide +kernel
theorem dL_law_1198 : decode cL_law 1198 = .ok (.istore 6, 2) := by decide +kernel
theorem dL_law_1200 : decode cL_law 1200 = .ok (.aload_n 2, 1) := by decide +kernel
theorem dL_law_1201 : decode cL_law 1201 = .ok (.invokevirtual 81, 3) := by decide +kernel
theorem dL_law_1204 : decode cL_law 1204 = .ok (.iload 5, 2) := by decide +kernel
theorem dL_law_1206 : decode cL_law 1206 = .ok (.if_icmp .eq 5, 3) := by decide +kernel
theorem dL_law_1209 : decode cL_law 1209 = .ok (.iconst 0, 1) := by decide +kernel
theorem dL_law_1210 : decode cL_law 1210 = .ok (.ireturn, 1) := by decide +kernel
theorem dL_law_1211 : decode cL_law 1211 = .ok (.iload 5, 2) := by decide +kernel
theorem dL_law_1213 : decode cL_law 1213 = .ok (.ifCond .ne 15, 3) := by decide +kernel
theorem dL_law_1216 : decode cL_law 1216 = .ok (.aload_n 3, 1) := by decide +kernel
theorem dL_law_1217 : decode cL_law 1217 = .ok (.iconst 0, 1) := by decide +kernel
theorem dL_law_1218 : decode cL_law 1218 = .ok (.laload, 1) := by decide +kernel
theorem dL_law_1219 : decode cL_law 1219 = .ok (.iload 6, 2) := by decide +kernel
theorem dL_law_1221 : decode cL_law 1221 = .ok (.i2l, 1) := by decide +kernel
theorem dL_law_1222 : decode cL_law 1222 = .ok (.lcmp, 1) := by decide +kernel
theorem dL_law_1223 : decode cL_law 1223 = .ok (.ifCond .eq 5, 3) := by decide +kernel
theorem dL_law_1226 : decode cL_law 1226 = .ok (.iconst 0, 1) := by decide +kernel
theorem dL_law_1227 : decode cL_law 1227 = .ok (.ireturn, 1) := by decide +kernel
theorem dL_law_1228 : decode cL_law 1228 = .ok (.goto 3, 3) := by decide +kernel
theorem dL_law_1231 : decode cL_law 1231 = .ok (.iinc 4 6, 3) := by decide +kernel
theorem dL_law_1234 : decode cL_law 1234 = .ok (.goto (-1191), 3) := by decide +kernel
theorem dL_law_1237 : decode cL_law 1237 = .ok (.iconst 1, 1) := by decide +kernel
theorem dL_law_1238 : decode cL_law 1238 = .ok (.ireturn, 1) := by decide +kernel
end
section
/-- the words that every method here is proved with: those of the tables that nothing changes -/
def TB : List Cond := lw_tbl.filter goodWord
theorem mT (i : Nat) {w : Cond} (h : lw_tbl[i]? = some w) (g : goodWord w = true) : w ∈ TB := List.mem_filter.mpr ⟨List.mem_of_getElem? h, g⟩
theorem TB_sub : ∀ w ∈ TB, w ∈ lw_tbl := fun _ h => (List.mem_filter.mp h).1
theorem TB_good : ∀ w ∈ TB, (w.onTables && w.keeps) = true ∨ ∃ ty, w = .arrayClass ty := fun _ h => good_of_word (List.mem_filter.mp h).2
theorem TB_in {cd cd' : Cond} (h : cd' ∈ TB) : GoodIn (cd :: TB) (cd' :: TB) := by
  intro w hw
  have h1 : w ∈ TB := (List.mem_cons.mp hw).elim (fun q => by rw [q]; exact h) id
  exact ⟨List.mem_cons_of_mem _ h1, TB_good w h1⟩
theorem TB_tbl {cd' : Cond} (h : cd' ∈ TB) : GoodIn lw_tbl (cd' :: TB) := by
  intro w hw
  have h1 : w ∈ TB := (List.mem_cons.mp hw).elim (fun q => by rw [q]; exact h) id
  exact ⟨TB_sub w h1, TB_good w h1⟩
theorem TB_self {cd' : Cond} (h : cd' ∈ TB) : GoodIn TB (cd' :: TB) := by
  intro w hw
  have h1 : w ∈ TB := (List.mem_cons.mp hw).elim (fun q => by rw [q]; exact h) id
  exact ⟨h1, TB_good w h1⟩
/-- a call's words: by the receiver's class -/
def kcV (own : String) (idx : Nat) (C : String) (y : MethodName) (bytes : ByteArray) (maxL : Nat) (ret : Option FieldType) (n : Nat) : Prop :=
  Cond.code y bytes maxL ret ∈ TB ∧ Cond.methodLink own idx y ∈ TB ∧ Cond.instanceMethod y ∈ TB ∧ Cond.selects C y y ∈ TB ∧ Cond.initialized C ∈ TB ∧ y.cls = C ∧ y.cls ≠ "java/lang/invoke/MethodHandle" ∧ y.cls ≠ "java/lang/invoke/VarHandle" ∧ (parseMethodDescriptor y.desc).map (fun d => d.parameters.length) = some n
def kcS (own : String) (idx : Nat) (y : MethodName) (bytes : ByteArray) (maxL : Nat) (ret : Option FieldType) (n : Nat) : Prop :=
  Cond.code y bytes maxL ret ∈ TB ∧ Cond.methodLink own idx y ∈ TB ∧ Cond.static y ∈ TB ∧ Cond.initialized y.cls ∈ TB ∧ y.cls ≠ "java/lang/invoke/MethodHandle" ∧ y.cls ≠ "java/lang/invoke/VarHandle" ∧ (parseMethodDescriptor y.desc).map (fun d => d.parameters.length) = some n
def kcI (own : String) (idx : Nat) (y : MethodName) (bytes : ByteArray) (maxL : Nat) (n : Nat) : Prop :=
  Cond.code y bytes maxL none ∈ TB ∧ Cond.methodLink own idx y ∈ TB ∧ Cond.instanceMethod y ∈ TB ∧ Cond.initialized y.cls ∈ TB ∧ y.name = "<init>" ∧ y.cls ≠ "java/lang/invoke/MethodHandle" ∧ y.cls ≠ "java/lang/invoke/VarHandle" ∧ (parseMethodDescriptor y.desc).map (fun d => d.parameters.length) = some n
theorem inT_Jx00060 : ∀ w ∈ u_ws RJx00060 TJx00060 6, w ∈ TB := by decide +kernel
theorem inT_X0 : ∀ w ∈ u_ws RX0 TX0 4, w ∈ TB := by decide +kernel
theorem inT_X1 : ∀ w ∈ u_ws RX1 TX1 3, w ∈ TB := by decide +kernel
theorem inT_X2 : ∀ w ∈ u_ws RX2 TX2 3, w ∈ TB := by decide +kernel
theorem inT_X3 : ∀ w ∈ u_ws RX3 TX3 7, w ∈ TB := by decide +kernel
theorem inT_X4 : ∀ w ∈ u_ws RX4 TX4 4, w ∈ TB := by decide +kernel
theorem inT_X5 : ∀ w ∈ u_ws RX5 TX5 19, w ∈ TB := by decide +kernel
theorem kc_L_72 : kcI RL 72 yX4_init cX4_init 5 2 := ⟨(mT 48 (by decide +kernel) rfl), (mT 46 (by decide +kernel) rfl), (mT 47 (by decide +kernel) rfl), (mT 29 (by decide +kernel) rfl), rfl, by decide, by decide, by decide +kernel⟩
theorem kc_X4_9 : kcS RX4 9 yJ9_min_7cf53 cJ9_min_7cf53 2 (some .int) 2 := ⟨(mT 54 (by decide +kernel) rfl), (mT 52 (by decide +kernel) rfl), (mT 53 (by decide +kernel) rfl), (mT 30 (by decide +kernel) rfl), by decide, by decide, by decide +kernel⟩
theorem kc_X4_15 : kcS RX4 15 yJ9_max_7cf53 cJ9_max_7cf53 2 (some .int) 2 := ⟨(mT 57 (by decide +kernel) rfl), (mT 55 (by decide +kernel) rfl), (mT 56 (by decide +kernel) rfl), (mT 30 (by decide +kernel) rfl), by decide, by decide, by decide +kernel⟩
theorem kc_X4_20 : kcI RX4 20 yX3_init cX3_init 3 2 := ⟨(mT 62 (by decide +kernel) rfl), (mT 60 (by decide +kernel) rfl), (mT 61 (by decide +kernel) rfl), (mT 31 (by decide +kernel) rfl), rfl, by decide, by decide, by decide +kernel⟩
theorem kc_X3_13 : kcI RX3 13 yX2_init cX2_init 2 0 := ⟨(mT 68 (by decide +kernel) rfl), (mT 66 (by decide +kernel) rfl), (mT 67 (by decide +kernel) rfl), (mT 32 (by decide +kernel) rfl), rfl, by decide, by decide, by decide +kernel⟩
theorem kc_X4_29 : kcI RX4 29 yX1_init cX1_init 1 0 := ⟨(mT 117 (by decide +kernel) rfl), (mT 115 (by decide +kernel) rfl), (mT 116 (by decide +kernel) rfl), (mT 33 (by decide +kernel) rfl), rfl, by decide, by decide, by decide +kernel⟩
theorem kc_L_89 : kcV RL 89 RX4 yX4_paint cX4_paint 13 (some .int) 5 := ⟨(mT 147 (by decide +kernel) rfl), (mT 144 (by decide +kernel) rfl), (mT 145 (by decide +kernel) rfl), (mT 146 (by decide +kernel) rfl), (mT 29 (by decide +kernel) rfl), rfl, by decide, by decide, by decide +kernel⟩
theorem kc_X4_89 : kcV RX4 89 RX3 yX3_paintPoint cX3_paintPoint 5 none 2 := ⟨(mT 151 (by decide +kernel) rfl), (mT 148 (by decide +kernel) rfl), (mT 149 (by decide +kernel) rfl), (mT 150 (by decide +kernel) rfl), (mT 31 (by decide +kernel) rfl), rfl, by decide, by decide, by decide +kernel⟩
theorem kc_X3_53 : kcV RX3 53 RX3 yX3_sumAt cX3_sumAt 4 (some .int) 1 := ⟨(mT 155 (by decide +kernel) rfl), (mT 152 (by decide +kernel) rfl), (mT 154 (by decide +kernel) rfl), (mT 0 (by decide +kernel) rfl), (mT 31 (by decide +kernel) rfl), rfl, by decide, by decide, by decide +kernel⟩
theorem kc_X3_38 : kcV RX3 38 RX3 yX3_byteAt cX3_byteAt 3 (some .int) 2 := ⟨(mT 159 (by decide +kernel) rfl), (mT 156 (by decide +kernel) rfl), (mT 157 (by decide +kernel) rfl), (mT 158 (by decide +kernel) rfl), (mT 31 (by decide +kernel) rfl), rfl, by decide, by decide, by decide +kernel⟩
theorem kc_X3_57 : kcV RX3 57 RX3 yX3_moveToBlack cX3_moveToBlack 5 none 2 := ⟨(mT 163 (by decide +kernel) rfl), (mT 160 (by decide +kernel) rfl), (mT 162 (by decide +kernel) rfl), (mT 1 (by decide +kernel) rfl), (mT 31 (by decide +kernel) rfl), rfl, by decide, by decide, by decide +kernel⟩
theorem kc_X3_65 : kcS RX3 65 yJ9_min_7cf53 cJ9_min_7cf53 2 (some .int) 2 := ⟨(mT 54 (by decide +kernel) rfl), (mT 164 (by decide +kernel) rfl), (mT 53 (by decide +kernel) rfl), (mT 30 (by decide +kernel) rfl), by decide, by decide, by decide +kernel⟩
theorem kc_X3_61 : kcV RX3 61 RX3 yX3_shrinkToLimit cX3_shrinkToLimit 7 none 1 := ⟨(mT 168 (by decide +kernel) rfl), (mT 165 (by decide +kernel) rfl), (mT 167 (by decide +kernel) rfl), (mT 2 (by decide +kernel) rfl), (mT 31 (by decide +kernel) rfl), rfl, by decide, by decide, by decide +kernel⟩
theorem kc_X3_42 : kcS RX3 42 yJ9_max_7cf53 cJ9_max_7cf53 2 (some .int) 2 := ⟨(mT 57 (by decide +kernel) rfl), (mT 169 (by decide +kernel) rfl), (mT 56 (by decide +kernel) rfl), (mT 30 (by decide +kernel) rfl), by decide, by decide, by decide +kernel⟩
theorem kc_L_67 : kcS RL 67 yL_cell cL_cell 2 (some .int) 2 := ⟨(mT 172 (by decide +kernel) rfl), (mT 170 (by decide +kernel) rfl), (mT 171 (by decide +kernel) rfl), (mT 28 (by decide +kernel) rfl), by decide, by decide, by decide +kernel⟩
theorem kc_L_7 : kcV RL 7 RX4 yX4_ink cX4_ink 5 (some .int) 4 := ⟨(mT 181 (by decide +kernel) rfl), (mT 178 (by decide +kernel) rfl), (mT 179 (by decide +kernel) rfl), (mT 180 (by decide +kernel) rfl), (mT 29 (by decide +kernel) rfl), rfl, by decide, by decide, by decide +kernel⟩
theorem kc_X4_44 : kcS RX4 44 yX4_isByte cX4_isByte 1 (some .boolean) 1 := ⟨(mT 184 (by decide +kernel) rfl), (mT 182 (by decide +kernel) rfl), (mT 183 (by decide +kernel) rfl), (mT 29 (by decide +kernel) rfl), by decide, by decide, by decide +kernel⟩
theorem kc_X4_69 : kcV RX4 69 RX2 yX2_addMix cX2_addMix 6 (some .int) 4 := ⟨(mT 273 (by decide +kernel) rfl), (mT 270 (by decide +kernel) rfl), (mT 271 (by decide +kernel) rfl), (mT 272 (by decide +kernel) rfl), (mT 32 (by decide +kernel) rfl), rfl, by decide, by decide, by decide +kernel⟩
theorem kc_L_17 : kcV RL 17 RX4 yX4_colour cX4_colour 3 none 2 := ⟨(mT 281 (by decide +kernel) rfl), (mT 278 (by decide +kernel) rfl), (mT 279 (by decide +kernel) rfl), (mT 280 (by decide +kernel) rfl), (mT 29 (by decide +kernel) rfl), rfl, by decide, by decide, by decide +kernel⟩
theorem kc_X4_75 : kcV RX4 75 RX4 yX4_checkInk cX4_checkInk 2 none 1 := ⟨(mT 286 (by decide +kernel) rfl), (mT 283 (by decide +kernel) rfl), (mT 285 (by decide +kernel) rfl), (mT 4 (by decide +kernel) rfl), (mT 29 (by decide +kernel) rfl), rfl, by decide, by decide, by decide +kernel⟩
theorem kc_L_23 : kcV RL 23 RX4 yX4_limit cX4_limit 3 (some .int) 1 := ⟨(mT 314 (by decide +kernel) rfl), (mT 311 (by decide +kernel) rfl), (mT 312 (by decide +kernel) rfl), (mT 313 (by decide +kernel) rfl), (mT 29 (by decide +kernel) rfl), rfl, by decide, by decide, by decide +kernel⟩
theorem kc_L_27 : kcV RL 27 RX4 yX4_plate cX4_plate 7 (some .int) 4 := ⟨(mT 322 (by decide +kernel) rfl), (mT 319 (by decide +kernel) rfl), (mT 320 (by decide +kernel) rfl), (mT 321 (by decide +kernel) rfl), (mT 29 (by decide +kernel) rfl), rfl, by decide, by decide, by decide +kernel⟩
theorem kc_X4_100 : kcV RX4 100 RX4 yX4_checkPoint cX4_checkPoint 3 none 2 := ⟨(mT 327 (by decide +kernel) rfl), (mT 324 (by decide +kernel) rfl), (mT 326 (by decide +kernel) rfl), (mT 5 (by decide +kernel) rfl), (mT 29 (by decide +kernel) rfl), rfl, by decide, by decide, by decide +kernel⟩
theorem kc_X4_103 : kcV RX4 103 RX3 yX3_lenderOf cX3_lenderOf 11 (some .int) 2 := ⟨(mT 332 (by decide +kernel) rfl), (mT 329 (by decide +kernel) rfl), (mT 330 (by decide +kernel) rfl), (mT 331 (by decide +kernel) rfl), (mT 31 (by decide +kernel) rfl), rfl, by decide, by decide, by decide +kernel⟩
theorem kc_X3_79 : kcV RX3 79 RX3 yX3_lightness cX3_lightness 2 (some .int) 1 := ⟨(mT 336 (by decide +kernel) rfl), (mT 333 (by decide +kernel) rfl), (mT 335 (by decide +kernel) rfl), (mT 6 (by decide +kernel) rfl), (mT 31 (by decide +kernel) rfl), rfl, by decide, by decide, by decide +kernel⟩
theorem kc_X3_76 : kcV RX3 76 RX3 yX3_bandOf cX3_bandOf 7 (some .int) 3 := ⟨(mT 340 (by decide +kernel) rfl), (mT 337 (by decide +kernel) rfl), (mT 338 (by decide +kernel) rfl), (mT 339 (by decide +kernel) rfl), (mT 31 (by decide +kernel) rfl), rfl, by decide, by decide, by decide +kernel⟩
theorem kc_X3_68 : kcV RX3 68 RX3 yX3_byteWith cX3_byteWith 5 (some .int) 3 := ⟨(mT 344 (by decide +kernel) rfl), (mT 341 (by decide +kernel) rfl), (mT 342 (by decide +kernel) rfl), (mT 343 (by decide +kernel) rfl), (mT 31 (by decide +kernel) rfl), rfl, by decide, by decide, by decide +kernel⟩
theorem kc_X3_72 : kcV RX3 72 RX2 yX2_strength cX2_strength 3 (some .int) 2 := ⟨(mT 348 (by decide +kernel) rfl), (mT 345 (by decide +kernel) rfl), (mT 346 (by decide +kernel) rfl), (mT 347 (by decide +kernel) rfl), (mT 32 (by decide +kernel) rfl), rfl, by decide, by decide, by decide +kernel⟩
theorem kc_X2_22 : kcS RX2 22 yJ9_min_7cf53 cJ9_min_7cf53 2 (some .int) 2 := ⟨(mT 54 (by decide +kernel) rfl), (mT 349 (by decide +kernel) rfl), (mT 53 (by decide +kernel) rfl), (mT 30 (by decide +kernel) rfl), by decide, by decide, by decide +kernel⟩
theorem kc_X3_85 : kcV RX3 85 RX3 yX3_unlike cX3_unlike 8 (some .boolean) 2 := ⟨(mT 355 (by decide +kernel) rfl), (mT 352 (by decide +kernel) rfl), (mT 354 (by decide +kernel) rfl), (mT 7 (by decide +kernel) rfl), (mT 31 (by decide +kernel) rfl), rfl, by decide, by decide, by decide +kernel⟩
theorem kc_X4_106 : kcV RX4 106 RX3 yX3_byteWith cX3_byteWith 5 (some .int) 3 := ⟨(mT 344 (by decide +kernel) rfl), (mT 356 (by decide +kernel) rfl), (mT 342 (by decide +kernel) rfl), (mT 343 (by decide +kernel) rfl), (mT 31 (by decide +kernel) rfl), rfl, by decide, by decide, by decide +kernel⟩
theorem kc_X4_110 : kcV RX4 110 RX1 yX1_bent cX1_bent 5 (some .int) 1 := ⟨(mT 360 (by decide +kernel) rfl), (mT 357 (by decide +kernel) rfl), (mT 358 (by decide +kernel) rfl), (mT 359 (by decide +kernel) rfl), (mT 33 (by decide +kernel) rfl), rfl, by decide, by decide, by decide +kernel⟩
theorem kc_X1_22 : kcV RX1 22 RX1 yX1_firstFrom cX1_firstFrom 3 (some .int) 1 := ⟨(mT 364 (by decide +kernel) rfl), (mT 361 (by decide +kernel) rfl), (mT 363 (by decide +kernel) rfl), (mT 8 (by decide +kernel) rfl), (mT 33 (by decide +kernel) rfl), rfl, by decide, by decide, by decide +kernel⟩
theorem kc_X1_26 : kcS RX1 26 yJ9_max_7cf53 cJ9_max_7cf53 2 (some .int) 2 := ⟨(mT 57 (by decide +kernel) rfl), (mT 365 (by decide +kernel) rfl), (mT 56 (by decide +kernel) rfl), (mT 30 (by decide +kernel) rfl), by decide, by decide, by decide +kernel⟩
theorem kc_L_30 : kcV RL 30 RX4 yX4_seen cX4_seen 6 (some .int) 4 := ⟨(mT 372 (by decide +kernel) rfl), (mT 369 (by decide +kernel) rfl), (mT 370 (by decide +kernel) rfl), (mT 371 (by decide +kernel) rfl), (mT 29 (by decide +kernel) rfl), rfl, by decide, by decide, by decide +kernel⟩
theorem kc_X4_119 : kcV RX4 119 RX3 yX3_bandOf cX3_bandOf 7 (some .int) 3 := ⟨(mT 340 (by decide +kernel) rfl), (mT 374 (by decide +kernel) rfl), (mT 338 (by decide +kernel) rfl), (mT 339 (by decide +kernel) rfl), (mT 31 (by decide +kernel) rfl), rfl, by decide, by decide, by decide +kernel⟩
theorem kc_L_34 : kcV RL 34 RX4 yX4_lender cX4_lender 3 (some .int) 2 := ⟨(mT 381 (by decide +kernel) rfl), (mT 378 (by decide +kernel) rfl), (mT 379 (by decide +kernel) rfl), (mT 380 (by decide +kernel) rfl), (mT 29 (by decide +kernel) rfl), rfl, by decide, by decide, by decide +kernel⟩
theorem kc_L_38 : kcV RL 38 RX4 yX4_width cX4_width 3 (some .int) 1 := ⟨(mT 388 (by decide +kernel) rfl), (mT 385 (by decide +kernel) rfl), (mT 386 (by decide +kernel) rfl), (mT 387 (by decide +kernel) rfl), (mT 29 (by decide +kernel) rfl), rfl, by decide, by decide, by decide +kernel⟩
theorem kc_L_41 : kcV RL 41 RX4 yX4_gain cX4_gain 3 none 2 := ⟨(mT 396 (by decide +kernel) rfl), (mT 393 (by decide +kernel) rfl), (mT 394 (by decide +kernel) rfl), (mT 395 (by decide +kernel) rfl), (mT 29 (by decide +kernel) rfl), rfl, by decide, by decide, by decide +kernel⟩
theorem kc_X4_129 : kcV RX4 129 RX1 yX1_hasRoomFor cX1_hasRoomFor 2 (some .boolean) 1 := ⟨(mT 401 (by decide +kernel) rfl), (mT 398 (by decide +kernel) rfl), (mT 399 (by decide +kernel) rfl), (mT 400 (by decide +kernel) rfl), (mT 33 (by decide +kernel) rfl), rfl, by decide, by decide, by decide +kernel⟩
theorem kc_X4_134 : kcV RX4 134 RX1 yX1_put cX1_put 5 none 2 := ⟨(mT 406 (by decide +kernel) rfl), (mT 403 (by decide +kernel) rfl), (mT 404 (by decide +kernel) rfl), (mT 405 (by decide +kernel) rfl), (mT 33 (by decide +kernel) rfl), rfl, by decide, by decide, by decide +kernel⟩
theorem kc_L_44 : kcV RL 44 RX4 yX4_cell cX4_cell 3 (some .int) 2 := ⟨(mT 414 (by decide +kernel) rfl), (mT 411 (by decide +kernel) rfl), (mT 412 (by decide +kernel) rfl), (mT 413 (by decide +kernel) rfl), (mT 29 (by decide +kernel) rfl), rfl, by decide, by decide, by decide +kernel⟩
theorem kc_X4_146 : kcI RX4 146 yX0_init cX0_init 3 2 := ⟨(mT 436 (by decide +kernel) rfl), (mT 434 (by decide +kernel) rfl), (mT 435 (by decide +kernel) rfl), (mT 43 (by decide +kernel) rfl), rfl, by decide, by decide, by decide +kernel⟩
theorem kc_X0_9 : kcS RX0 9 yX0_commonDivisor cX0_commonDivisor 3 (some .int) 2 := ⟨(mT 440 (by decide +kernel) rfl), (mT 438 (by decide +kernel) rfl), (mT 439 (by decide +kernel) rfl), (mT 43 (by decide +kernel) rfl), by decide, by decide, by decide +kernel⟩
theorem kc_X0_19 : kcS RX0 19 yJ9_max_7cf53 cJ9_max_7cf53 2 (some .int) 2 := ⟨(mT 57 (by decide +kernel) rfl), (mT 441 (by decide +kernel) rfl), (mT 56 (by decide +kernel) rfl), (mT 30 (by decide +kernel) rfl), by decide, by decide, by decide +kernel⟩
theorem kc_X0_27 : kcS RX0 27 yX0_sideways cX0_sideways 5 (some .int) 3 := ⟨(mT 444 (by decide +kernel) rfl), (mT 442 (by decide +kernel) rfl), (mT 443 (by decide +kernel) rfl), (mT 43 (by decide +kernel) rfl), by decide, by decide, by decide +kernel⟩
theorem kc_X0_31 : kcS RX0 31 yJ9_floorMod_7cf53 cJ9_floorMod_7cf53 3 (some .int) 2 := ⟨(mT 447 (by decide +kernel) rfl), (mT 445 (by decide +kernel) rfl), (mT 446 (by decide +kernel) rfl), (mT 30 (by decide +kernel) rfl), by decide, by decide, by decide +kernel⟩
theorem kc_X0_41 : kcV RX0 41 RX0 yX0_leastSizes cX0_leastSizes 5 (some (.array .int)) 0 := ⟨(mT 451 (by decide +kernel) rfl), (mT 448 (by decide +kernel) rfl), (mT 450 (by decide +kernel) rfl), (mT 9 (by decide +kernel) rfl), (mT 43 (by decide +kernel) rfl), rfl, by decide, by decide, by decide +kernel⟩
theorem kc_X0_52 : kcV RX0 52 RX0 yX0_numberOf cX0_numberOf 4 (some .int) 2 := ⟨(mT 455 (by decide +kernel) rfl), (mT 452 (by decide +kernel) rfl), (mT 453 (by decide +kernel) rfl), (mT 454 (by decide +kernel) rfl), (mT 43 (by decide +kernel) rfl), rfl, by decide, by decide, by decide +kernel⟩
theorem kc_X0_49 : kcS RX0 49 yJ9_floorDiv_7cf53 cJ9_floorDiv_7cf53 3 (some .int) 2 := ⟨(mT 458 (by decide +kernel) rfl), (mT 456 (by decide +kernel) rfl), (mT 457 (by decide +kernel) rfl), (mT 30 (by decide +kernel) rfl), by decide, by decide, by decide +kernel⟩
theorem kc_X0_55 : kcS RX0 55 yJ9_min_7cf53 cJ9_min_7cf53 2 (some .int) 2 := ⟨(mT 54 (by decide +kernel) rfl), (mT 459 (by decide +kernel) rfl), (mT 53 (by decide +kernel) rfl), (mT 30 (by decide +kernel) rfl), by decide, by decide, by decide +kernel⟩
theorem kc_X0_45 : kcV RX0 45 RX0 yX0_rankBySize cX0_rankBySize 7 none 1 := ⟨(mT 463 (by decide +kernel) rfl), (mT 460 (by decide +kernel) rfl), (mT 462 (by decide +kernel) rfl), (mT 10 (by decide +kernel) rfl), (mT 43 (by decide +kernel) rfl), rfl, by decide, by decide, by decide +kernel⟩
theorem kc_L_49 : kcV RL 49 RX4 yX4_rank cX4_rank 4 (some .int) 2 := ⟨(mT 484 (by decide +kernel) rfl), (mT 481 (by decide +kernel) rfl), (mT 482 (by decide +kernel) rfl), (mT 483 (by decide +kernel) rfl), (mT 29 (by decide +kernel) rfl), rfl, by decide, by decide, by decide +kernel⟩
theorem kc_X4_147 : kcV RX4 147 RX4 yX4_checkedCell cX4_checkedCell 3 (some (.object "SeparateScreens$Cell")) 1 := ⟨(mT 488 (by decide +kernel) rfl), (mT 485 (by decide +kernel) rfl), (mT 487 (by decide +kernel) rfl), (mT 11 (by decide +kernel) rfl), (mT 29 (by decide +kernel) rfl), rfl, by decide, by decide, by decide +kernel⟩
theorem kc_L_52 : kcV RL 52 RX4 yX4_same cX4_same 5 (some .int) 3 := ⟨(mT 497 (by decide +kernel) rfl), (mT 494 (by decide +kernel) rfl), (mT 495 (by decide +kernel) rfl), (mT 496 (by decide +kernel) rfl), (mT 29 (by decide +kernel) rfl), rfl, by decide, by decide, by decide +kernel⟩
theorem kc_X4_156 : kcS RX4 156 yX4_isTooFar cX4_isTooFar 1 (some .boolean) 1 := ⟨(mT 500 (by decide +kernel) rfl), (mT 498 (by decide +kernel) rfl), (mT 499 (by decide +kernel) rfl), (mT 29 (by decide +kernel) rfl), by decide, by decide, by decide +kernel⟩
theorem kc_X4_161 : kcV RX4 161 RX0 yX0_numberOf cX0_numberOf 4 (some .int) 2 := ⟨(mT 455 (by decide +kernel) rfl), (mT 504 (by decide +kernel) rfl), (mT 453 (by decide +kernel) rfl), (mT 454 (by decide +kernel) rfl), (mT 43 (by decide +kernel) rfl), rfl, by decide, by decide, by decide +kernel⟩
theorem kc_L_56 : kcV RL 56 RX4 yX4_prints cX4_prints 7 (some .boolean) 4 := ⟨(mT 511 (by decide +kernel) rfl), (mT 508 (by decide +kernel) rfl), (mT 509 (by decide +kernel) rfl), (mT 510 (by decide +kernel) rfl), (mT 29 (by decide +kernel) rfl), rfl, by decide, by decide, by decide +kernel⟩
theorem kc_X4_164 : kcV RX4 164 RX3 yX3_byteAt cX3_byteAt 3 (some .int) 2 := ⟨(mT 159 (by decide +kernel) rfl), (mT 512 (by decide +kernel) rfl), (mT 157 (by decide +kernel) rfl), (mT 158 (by decide +kernel) rfl), (mT 31 (by decide +kernel) rfl), rfl, by decide, by decide, by decide +kernel⟩
theorem kc_X4_167 : kcV RX4 167 RX0 yX0_takes cX0_takes 4 (some .boolean) 3 := ⟨(mT 516 (by decide +kernel) rfl), (mT 513 (by decide +kernel) rfl), (mT 514 (by decide +kernel) rfl), (mT 515 (by decide +kernel) rfl), (mT 43 (by decide +kernel) rfl), rfl, by decide, by decide, by decide +kernel⟩
theorem kc_L_60 : kcV RL 60 RX4 yX4_covered cX4_covered 5 (some .long) 1 := ⟨(mT 523 (by decide +kernel) rfl), (mT 520 (by decide +kernel) rfl), (mT 521 (by decide +kernel) rfl), (mT 522 (by decide +kernel) rfl), (mT 29 (by decide +kernel) rfl), rfl, by decide, by decide, by decide +kernel⟩
theorem kc_L_64 : kcV RL 64 RX4 yX4_packed cX4_packed 4 (some .int) 2 := ⟨(mT 530 (by decide +kernel) rfl), (mT 527 (by decide +kernel) rfl), (mT 528 (by decide +kernel) rfl), (mT 529 (by decide +kernel) rfl), (mT 29 (by decide +kernel) rfl), rfl, by decide, by decide, by decide +kernel⟩
theorem kc_X4_174 : kcV RX4 174 RX3 yX3_countRuns cX3_countRuns 4 (some .int) 1 := ⟨(mT 534 (by decide +kernel) rfl), (mT 531 (by decide +kernel) rfl), (mT 532 (by decide +kernel) rfl), (mT 533 (by decide +kernel) rfl), (mT 31 (by decide +kernel) rfl), rfl, by decide, by decide, by decide +kernel⟩
theorem kc_X3_89 : kcV RX3 89 RX3 yX3_startsRun cX3_startsRun 3 (some .boolean) 2 := ⟨(mT 538 (by decide +kernel) rfl), (mT 535 (by decide +kernel) rfl), (mT 537 (by decide +kernel) rfl), (mT 12 (by decide +kernel) rfl), (mT 31 (by decide +kernel) rfl), rfl, by decide, by decide, by decide +kernel⟩
theorem kc_X4_177 : kcV RX4 177 RX3 yX3_startOfRun cX3_startOfRun 5 (some .int) 2 := ⟨(mT 542 (by decide +kernel) rfl), (mT 539 (by decide +kernel) rfl), (mT 540 (by decide +kernel) rfl), (mT 541 (by decide +kernel) rfl), (mT 31 (by decide +kernel) rfl), rfl, by decide, by decide, by decide +kernel⟩
theorem kc_X4_182 : kcV RX4 182 RX3 yX3_lengthOfRun cX3_lengthOfRun 4 (some .int) 2 := ⟨(mT 547 (by decide +kernel) rfl), (mT 544 (by decide +kernel) rfl), (mT 545 (by decide +kernel) rfl), (mT 546 (by decide +kernel) rfl), (mT 31 (by decide +kernel) rfl), rfl, by decide, by decide, by decide +kernel⟩
theorem kc_L_76 : kcI RL 76 yX5_init cX5_init 4 2 := ⟨(mT 552 (by decide +kernel) rfl), (mT 550 (by decide +kernel) rfl), (mT 551 (by decide +kernel) rfl), (mT 34 (by decide +kernel) rfl), rfl, by decide, by decide, by decide +kernel⟩
theorem kc_L_81 : kcV RL 81 RX5 yX5_thrown cX5_thrown 1 (some .int) 0 := ⟨(mT 615 (by decide +kernel) rfl), (mT 612 (by decide +kernel) rfl), (mT 613 (by decide +kernel) rfl), (mT 614 (by decide +kernel) rfl), (mT 34 (by decide +kernel) rfl), rfl, by decide, by decide, by decide +kernel⟩
theorem kc_L_80 : kcV RL 80 RX5 yX5_ink cX5_ink 5 (some .int) 4 := ⟨(mT 619 (by decide +kernel) rfl), (mT 616 (by decide +kernel) rfl), (mT 617 (by decide +kernel) rfl), (mT 618 (by decide +kernel) rfl), (mT 34 (by decide +kernel) rfl), rfl, by decide, by decide, by decide +kernel⟩
theorem kc_X5_65 : kcS RX5 65 yX5_isByte cX5_isByte 1 (some .boolean) 1 := ⟨(mT 622 (by decide +kernel) rfl), (mT 620 (by decide +kernel) rfl), (mT 621 (by decide +kernel) rfl), (mT 34 (by decide +kernel) rfl), by decide, by decide, by decide +kernel⟩
theorem kc_L_88 : kcV RL 88 RX5 yX5_colour cX5_colour 3 none 2 := ⟨(mT 626 (by decide +kernel) rfl), (mT 623 (by decide +kernel) rfl), (mT 624 (by decide +kernel) rfl), (mT 625 (by decide +kernel) rfl), (mT 34 (by decide +kernel) rfl), rfl, by decide, by decide, by decide +kernel⟩
theorem kc_X5_69 : kcV RX5 69 RX5 yX5_isInk cX5_isInk 2 (some .boolean) 1 := ⟨(mT 630 (by decide +kernel) rfl), (mT 627 (by decide +kernel) rfl), (mT 629 (by decide +kernel) rfl), (mT 13 (by decide +kernel) rfl), (mT 34 (by decide +kernel) rfl), rfl, by decide, by decide, by decide +kernel⟩
theorem kc_L_93 : kcV RL 93 RX5 yX5_paint cX5_paint 12 (some .int) 5 := ⟨(mT 634 (by decide +kernel) rfl), (mT 631 (by decide +kernel) rfl), (mT 632 (by decide +kernel) rfl), (mT 633 (by decide +kernel) rfl), (mT 34 (by decide +kernel) rfl), rfl, by decide, by decide, by decide +kernel⟩
theorem kc_X5_83 : kcV RX5 83 RX5 yX5_bind cX5_bind 8 none 1 := ⟨(mT 638 (by decide +kernel) rfl), (mT 635 (by decide +kernel) rfl), (mT 637 (by decide +kernel) rfl), (mT 14 (by decide +kernel) rfl), (mT 34 (by decide +kernel) rfl), rfl, by decide, by decide, by decide +kernel⟩
theorem kc_X5_72 : kcV RX5 72 RX5 yX5_sumAt cX5_sumAt 4 (some .int) 1 := ⟨(mT 642 (by decide +kernel) rfl), (mT 639 (by decide +kernel) rfl), (mT 641 (by decide +kernel) rfl), (mT 15 (by decide +kernel) rfl), (mT 34 (by decide +kernel) rfl), rfl, by decide, by decide, by decide +kernel⟩
theorem kc_X5_76 : kcS RX5 76 yX5_less cX5_less 2 (some .int) 2 := ⟨(mT 645 (by decide +kernel) rfl), (mT 643 (by decide +kernel) rfl), (mT 644 (by decide +kernel) rfl), (mT 34 (by decide +kernel) rfl), by decide, by decide, by decide +kernel⟩
theorem kc_X5_80 : kcS RX5 80 yX5_more cX5_more 2 (some .int) 2 := ⟨(mT 648 (by decide +kernel) rfl), (mT 646 (by decide +kernel) rfl), (mT 647 (by decide +kernel) rfl), (mT 34 (by decide +kernel) rfl), by decide, by decide, by decide +kernel⟩
theorem kc_L_97 : kcV RL 97 RX5 yX5_limit cX5_limit 3 (some .int) 1 := ⟨(mT 652 (by decide +kernel) rfl), (mT 649 (by decide +kernel) rfl), (mT 650 (by decide +kernel) rfl), (mT 651 (by decide +kernel) rfl), (mT 34 (by decide +kernel) rfl), rfl, by decide, by decide, by decide +kernel⟩
theorem kc_L_100 : kcV RL 100 RX5 yX5_plate cX5_plate 6 (some .int) 4 := ⟨(mT 656 (by decide +kernel) rfl), (mT 653 (by decide +kernel) rfl), (mT 654 (by decide +kernel) rfl), (mT 655 (by decide +kernel) rfl), (mT 34 (by decide +kernel) rfl), rfl, by decide, by decide, by decide +kernel⟩
theorem kc_X5_106 : kcV RX5 106 RX5 yX5_isPoint cX5_isPoint 3 (some .boolean) 2 := ⟨(mT 660 (by decide +kernel) rfl), (mT 657 (by decide +kernel) rfl), (mT 659 (by decide +kernel) rfl), (mT 16 (by decide +kernel) rfl), (mT 34 (by decide +kernel) rfl), rfl, by decide, by decide, by decide +kernel⟩
theorem kc_X5_110 : kcV RX5 110 RX5 yX5_lenderOf cX5_lenderOf 12 (some .int) 2 := ⟨(mT 664 (by decide +kernel) rfl), (mT 661 (by decide +kernel) rfl), (mT 663 (by decide +kernel) rfl), (mT 17 (by decide +kernel) rfl), (mT 34 (by decide +kernel) rfl), rfl, by decide, by decide, by decide +kernel⟩
theorem kc_X5_99 : kcV RX5 99 RX5 yX5_lightness cX5_lightness 3 (some .int) 2 := ⟨(mT 668 (by decide +kernel) rfl), (mT 665 (by decide +kernel) rfl), (mT 667 (by decide +kernel) rfl), (mT 18 (by decide +kernel) rfl), (mT 34 (by decide +kernel) rfl), rfl, by decide, by decide, by decide +kernel⟩
theorem kc_X5_96 : kcV RX5 96 RX5 yX5_bandOf cX5_bandOf 8 (some .int) 4 := ⟨(mT 672 (by decide +kernel) rfl), (mT 669 (by decide +kernel) rfl), (mT 671 (by decide +kernel) rfl), (mT 19 (by decide +kernel) rfl), (mT 34 (by decide +kernel) rfl), rfl, by decide, by decide, by decide +kernel⟩
theorem kc_X5_92 : kcV RX5 92 RX5 yX5_inkOf cX5_inkOf 6 (some .int) 4 := ⟨(mT 677 (by decide +kernel) rfl), (mT 674 (by decide +kernel) rfl), (mT 676 (by decide +kernel) rfl), (mT 20 (by decide +kernel) rfl), (mT 34 (by decide +kernel) rfl), rfl, by decide, by decide, by decide +kernel⟩
theorem kc_X5_87 : kcV RX5 87 RX5 yX5_byteAt cX5_byteAt 4 (some .int) 3 := ⟨(mT 681 (by decide +kernel) rfl), (mT 678 (by decide +kernel) rfl), (mT 680 (by decide +kernel) rfl), (mT 21 (by decide +kernel) rfl), (mT 34 (by decide +kernel) rfl), rfl, by decide, by decide, by decide +kernel⟩
theorem kc_X5_102 : kcV RX5 102 RX5 yX5_areUnlike cX5_areUnlike 11 (some .boolean) 4 := ⟨(mT 685 (by decide +kernel) rfl), (mT 682 (by decide +kernel) rfl), (mT 684 (by decide +kernel) rfl), (mT 22 (by decide +kernel) rfl), (mT 34 (by decide +kernel) rfl), rfl, by decide, by decide, by decide +kernel⟩
theorem kc_X5_113 : kcV RX5 113 RX5 yX5_curve cX5_curve 4 (some .int) 1 := ⟨(mT 689 (by decide +kernel) rfl), (mT 686 (by decide +kernel) rfl), (mT 688 (by decide +kernel) rfl), (mT 23 (by decide +kernel) rfl), (mT 34 (by decide +kernel) rfl), rfl, by decide, by decide, by decide +kernel⟩
theorem kc_L_104 : kcV RL 104 RX5 yX5_seen cX5_seen 5 (some .int) 4 := ⟨(mT 693 (by decide +kernel) rfl), (mT 690 (by decide +kernel) rfl), (mT 691 (by decide +kernel) rfl), (mT 692 (by decide +kernel) rfl), (mT 34 (by decide +kernel) rfl), rfl, by decide, by decide, by decide +kernel⟩
theorem kc_L_108 : kcV RL 108 RX5 yX5_lender cX5_lender 3 (some .int) 2 := ⟨(mT 697 (by decide +kernel) rfl), (mT 694 (by decide +kernel) rfl), (mT 695 (by decide +kernel) rfl), (mT 696 (by decide +kernel) rfl), (mT 34 (by decide +kernel) rfl), rfl, by decide, by decide, by decide +kernel⟩
theorem kc_L_111 : kcV RL 111 RX5 yX5_width cX5_width 3 (some .int) 1 := ⟨(mT 701 (by decide +kernel) rfl), (mT 698 (by decide +kernel) rfl), (mT 699 (by decide +kernel) rfl), (mT 700 (by decide +kernel) rfl), (mT 34 (by decide +kernel) rfl), rfl, by decide, by decide, by decide +kernel⟩
theorem kc_L_114 : kcV RL 114 RX5 yX5_gain cX5_gain 3 none 2 := ⟨(mT 705 (by decide +kernel) rfl), (mT 702 (by decide +kernel) rfl), (mT 703 (by decide +kernel) rfl), (mT 704 (by decide +kernel) rfl), (mT 34 (by decide +kernel) rfl), rfl, by decide, by decide, by decide +kernel⟩
theorem kc_L_117 : kcV RL 117 RX5 yX5_cell cX5_cell 9 (some .int) 2 := ⟨(mT 709 (by decide +kernel) rfl), (mT 706 (by decide +kernel) rfl), (mT 707 (by decide +kernel) rfl), (mT 708 (by decide +kernel) rfl), (mT 34 (by decide +kernel) rfl), rfl, by decide, by decide, by decide +kernel⟩
theorem kc_X5_122 : kcS RX5 122 yX5_size cX5_size 1 (some .int) 1 := ⟨(mT 712 (by decide +kernel) rfl), (mT 710 (by decide +kernel) rfl), (mT 711 (by decide +kernel) rfl), (mT 34 (by decide +kernel) rfl), by decide, by decide, by decide +kernel⟩
theorem kc_X5_125 : kcS RX5 125 yX5_common cX5_common 4 (some .int) 2 := ⟨(mT 715 (by decide +kernel) rfl), (mT 713 (by decide +kernel) rfl), (mT 714 (by decide +kernel) rfl), (mT 34 (by decide +kernel) rfl), by decide, by decide, by decide +kernel⟩
theorem kc_X5_128 : kcS RX5 128 yX5_shiftOf cX5_shiftOf 5 (some .int) 3 := ⟨(mT 718 (by decide +kernel) rfl), (mT 716 (by decide +kernel) rfl), (mT 717 (by decide +kernel) rfl), (mT 34 (by decide +kernel) rfl), by decide, by decide, by decide +kernel⟩
theorem kc_X5_131 : kcV RX5 131 RX5 yX5_sameOf cX5_sameOf 8 (some .int) 3 := ⟨(mT 722 (by decide +kernel) rfl), (mT 719 (by decide +kernel) rfl), (mT 721 (by decide +kernel) rfl), (mT 24 (by decide +kernel) rfl), (mT 34 (by decide +kernel) rfl), rfl, by decide, by decide, by decide +kernel⟩
theorem kc_X5_116 : kcS RX5 116 yX5_floorOf cX5_floorOf 3 (some .int) 2 := ⟨(mT 725 (by decide +kernel) rfl), (mT 723 (by decide +kernel) rfl), (mT 724 (by decide +kernel) rfl), (mT 34 (by decide +kernel) rfl), by decide, by decide, by decide +kernel⟩
theorem kc_L_120 : kcV RL 120 RX5 yX5_rank cX5_rank 3 (some .int) 2 := ⟨(mT 729 (by decide +kernel) rfl), (mT 726 (by decide +kernel) rfl), (mT 727 (by decide +kernel) rfl), (mT 728 (by decide +kernel) rfl), (mT 34 (by decide +kernel) rfl), rfl, by decide, by decide, by decide +kernel⟩
theorem kc_X5_134 : kcV RX5 134 RX5 yX5_isCell cX5_isCell 2 (some .boolean) 1 := ⟨(mT 733 (by decide +kernel) rfl), (mT 730 (by decide +kernel) rfl), (mT 732 (by decide +kernel) rfl), (mT 25 (by decide +kernel) rfl), (mT 34 (by decide +kernel) rfl), rfl, by decide, by decide, by decide +kernel⟩
theorem kc_L_124 : kcV RL 124 RX5 yX5_same cX5_same 4 (some .int) 3 := ⟨(mT 737 (by decide +kernel) rfl), (mT 734 (by decide +kernel) rfl), (mT 735 (by decide +kernel) rfl), (mT 736 (by decide +kernel) rfl), (mT 34 (by decide +kernel) rfl), rfl, by decide, by decide, by decide +kernel⟩
theorem kc_X5_139 : kcS RX5 139 yX5_isNear cX5_isNear 1 (some .boolean) 1 := ⟨(mT 740 (by decide +kernel) rfl), (mT 738 (by decide +kernel) rfl), (mT 739 (by decide +kernel) rfl), (mT 34 (by decide +kernel) rfl), by decide, by decide, by decide +kernel⟩
theorem kc_L_127 : kcV RL 127 RX5 yX5_prints cX5_prints 5 (some .boolean) 4 := ⟨(mT 746 (by decide +kernel) rfl), (mT 743 (by decide +kernel) rfl), (mT 744 (by decide +kernel) rfl), (mT 745 (by decide +kernel) rfl), (mT 34 (by decide +kernel) rfl), rfl, by decide, by decide, by decide +kernel⟩
theorem kc_L_130 : kcV RL 130 RX5 yX5_covered cX5_covered 6 (some .long) 1 := ⟨(mT 750 (by decide +kernel) rfl), (mT 747 (by decide +kernel) rfl), (mT 748 (by decide +kernel) rfl), (mT 749 (by decide +kernel) rfl), (mT 34 (by decide +kernel) rfl), rfl, by decide, by decide, by decide +kernel⟩
theorem kc_L_133 : kcV RL 133 RX5 yX5_packed cX5_packed 7 (some .int) 2 := ⟨(mT 754 (by decide +kernel) rfl), (mT 751 (by decide +kernel) rfl), (mT 752 (by decide +kernel) rfl), (mT 753 (by decide +kernel) rfl), (mT 34 (by decide +kernel) rfl), rfl, by decide, by decide, by decide +kernel⟩
theorem kc_X5_146 : kcV RX5 146 RX5 yX5_runsOf cX5_runsOf 5 (some .int) 1 := ⟨(mT 758 (by decide +kernel) rfl), (mT 755 (by decide +kernel) rfl), (mT 757 (by decide +kernel) rfl), (mT 26 (by decide +kernel) rfl), (mT 34 (by decide +kernel) rfl), rfl, by decide, by decide, by decide +kernel⟩
theorem kc_X5_142 : kcV RX5 142 RX5 yX5_begins cX5_begins 4 (some .boolean) 3 := ⟨(mT 762 (by decide +kernel) rfl), (mT 759 (by decide +kernel) rfl), (mT 761 (by decide +kernel) rfl), (mT 27 (by decide +kernel) rfl), (mT 34 (by decide +kernel) rfl), rfl, by decide, by decide, by decide +kernel⟩
end
section
/-! numbers: every int of a method's frame is 'zI z', z an integer; arrays hold 'zA f', f from integers to integers -/
def zI (z : Int) : Int32 := Int32.ofInt z
theorem zI_add (a b : Int) : zI a + zI b = zI (a + b) := (Int32.ofInt_add a b).symm
theorem zI_sub (a b : Int) : zI a - zI b = zI (a - b) := (Int32.ofInt_sub a b).symm
theorem zI_mul (a b : Int) : zI a * zI b = zI (a * b) := (Int32.ofInt_mul a b).symm
theorem zI_neg (a : Int) : -zI a = zI (-a) := (Int32.ofInt_neg a).symm
theorem zI_to {a : Int} (h : -2147483648 ≤ a ∧ a ≤ 2147483647) : (zI a).toInt = a := Int32.toInt_ofInt_of_le (by omega) (by omega)
theorem zI_of (x : Int32) : zI x.toInt = x := Int32.ofInt_toInt x
theorem zI_rng (x : Int32) : -2147483648 ≤ x.toInt ∧ x.toInt ≤ 2147483647 := ⟨by have := x.le_toInt; omega, by have := x.toInt_lt; omega⟩
theorem zI_inj {a b : Int} (ha : -2147483648 ≤ a ∧ a ≤ 2147483647) (hb : -2147483648 ≤ b ∧ b ≤ 2147483647) : zI a = zI b ↔ a = b :=
  ⟨fun h => by have := congrArg Int32.toInt h; rwa [zI_to ha, zI_to hb] at this, fun h => by rw [h]⟩
theorem zI_lt {a b : Int} (ha : -2147483648 ≤ a ∧ a ≤ 2147483647) (hb : -2147483648 ≤ b ∧ b ≤ 2147483647) : zI a < zI b ↔ a < b := by
  rw [Int32.lt_iff_toInt_lt, zI_to ha, zI_to hb]
theorem zI_le {a b : Int} (ha : -2147483648 ≤ a ∧ a ≤ 2147483647) (hb : -2147483648 ≤ b ∧ b ≤ 2147483647) : zI a ≤ zI b ↔ a ≤ b := by
  rw [Int32.le_iff_toInt_le, zI_to ha, zI_to hb]
theorem zI_0 : zI 0 = 0 := rfl
theorem zI_cl {a : Int} (h : 0 ≤ a ∧ a ≤ 2147483647) : (zI a).toNatClampNeg = a.toNat := Int32.toNatClampNeg_ofInt_of_le (by omega) (by omega)
theorem zI_nI (n : Nat) : Int32.ofNat n = zI (n : Int) := Int32.ofInt_eq_ofNat.symm
theorem zI_in {i : Int} {n : Nat} (h : 0 ≤ i ∧ i < n) (hn : i ≤ 2147483647) : vp_in (zI i) n := by
  unfold vp_in
  rw [← zI_0, zI_lt (by omega) (by omega), zI_cl (by omega)]
  omega
theorem zI_tdiv {a b : Int} (ha : -2147483647 ≤ a ∧ a ≤ 2147483647) (hb : -2147483648 ≤ b ∧ b ≤ 2147483647) : zI a / zI b = zI (a.tdiv b) := by
  have h1 : zI a ≠ Int32.minValue := fun h => by
    have h2 := congrArg Int32.toInt h
    rw [zI_to (by omega)] at h2
    have h3 : Int32.minValue.toInt = -2147483648 := by decide
    omega
  have h4 := Int32.toInt_div_of_ne_left (zI a) (zI b) h1
  rw [zI_to (by omega), zI_to hb] at h4
  rw [← zI_of (zI a / zI b), h4]
theorem zI_div {a b : Int} (ha : 0 ≤ a ∧ a ≤ 2147483647) (hb : 0 < b ∧ b ≤ 2147483647) : zI a / zI b = zI (a / b) := by
  rw [zI_tdiv (by omega) (by omega), Int.tdiv_eq_ediv_of_nonneg ha.1]
theorem zI_trem {a b : Int} (ha : -2147483647 ≤ a ∧ a ≤ 2147483647) (hb : -2147483648 ≤ b ∧ b ≤ 2147483647) : zI a - zI a / zI b * zI b = zI (a.tmod b) := by
  rw [zI_tdiv ha hb, zI_mul, zI_sub]
  have := Int.tmod_add_tdiv_mul a b
  exact congrArg zI (by omega)
theorem zI_rem {a b : Int} (ha : 0 ≤ a ∧ a ≤ 2147483647) (hb : 0 < b ∧ b ≤ 2147483647) : zI a - zI a / zI b * zI b = zI (a % b) := by
  rw [zI_trem (by omega) (by omega), Int.tmod_eq_emod_of_nonneg ha.1]
def zA (f : Int → Int) : Nat → Int32 := fun j => zI (f (j : Int))
def zu (f : Int → Int) (i v : Int) : Int → Int := fun j => if j = i then v else f j
theorem zu_s (f : Int → Int) (i v : Int) : zu f i v i = v := if_pos rfl
theorem zu_n {f : Int → Int} {i v j : Int} (h : j ≠ i) : zu f i v j = f j := if_neg h
theorem zA_at {f : Int → Int} {i : Int} (h : 0 ≤ i ∧ i ≤ 2147483647) : zA f (zI i).toNatClampNeg = zI (f i) := by
  show zI (f (((zI i).toNatClampNeg : Nat) : Int)) = _
  rw [zI_cl h, Int.toNat_of_nonneg h.1]
theorem zA_up {f : Int → Int} {i v : Int} (h : 0 ≤ i ∧ i ≤ 2147483647) : upd (zA f) (zI i).toNatClampNeg (zI v) = zA (zu f i v) := by
  funext j
  rw [zI_cl h]
  show (if j = i.toNat then zI v else zI (f (j : Int))) = zI (if (j : Int) = i then v else f (j : Int))
  by_cases q : j = i.toNat
  · rw [if_pos q, if_pos (by omega)]
  · rw [if_neg q, if_neg (by omega)]
/-- what a method's proof is over: the classes' numbers and slots, the classes of the arrays of ints, of cells, of longs -/
abbrev zG : Type := va_G × ClassId × ClassId × ClassId
abbrev zTY (G : zG) : List (ClassId × FieldType) := [(G.2.1, .int), (G.2.2.1, .object "SeparateScreens$Cell"), (G.2.2.2, .long)]
abbrev zP (G : zG) (ws : va_W) (H : Heap) : Prop := va_P G.1 vwCl ws H
abbrev zK (G : zG) (U : State) : Prop := va_K G.1 vwCl (zTY G) U
abbrev ia (G : zG) (a n : Nat) (f : Int → Int) : Nat × va_E := (a, .inl (G.2.1, n, .inl (zA f)))
section ZR
variable {p : Program} {l : Launch} {e : Env} {R : Room} {s : State} {m : MethodId} {args : Array Value} {below : List Frame} {meth : Method} {c : Code} {H : Heap} {locs : List Loc} {cells slots : Nat} {Q : State → Prop} {cc : ByteArray} {pc : Nat} {ls : Array Slot} {rest : List Value}
theorem z_iconst (hx : p.tables.exec = Jvm.exec) (hb : c.code = cc) {n : Int} (hd : decode cc pc = .ok (.iconst n, 1)) (k : W p l e R s m args below meth c H locs cells slots Q (F0 m (pc + 1) ls (.int (zI n) :: rest))) : W p l e R s m args below meth c H locs cells slots Q (F0 m pc ls rest) := lv_iconst hx hb hd rfl k
theorem z_bipush (hx : p.tables.exec = Jvm.exec) (hb : c.code = cc) {n : Int} (hd : decode cc pc = .ok (.bipush n, 2)) (hv : (Int8.ofInt n).toInt32 = zI n) (k : W p l e R s m args below meth c H locs cells slots Q (F0 m (pc + 2) ls (.int (zI n) :: rest))) : W p l e R s m args below meth c H locs cells slots Q (F0 m pc ls rest) := lv_bipush hx hb hd hv k
theorem z_sipush (hx : p.tables.exec = Jvm.exec) (hb : c.code = cc) {n : Int} (hd : decode cc pc = .ok (.sipush n, 3)) (hv : (Int16.ofInt n).toInt32 = zI n) (k : W p l e R s m args below meth c H locs cells slots Q (F0 m (pc + 3) ls (.int (zI n) :: rest))) : W p l e R s m args below meth c H locs cells slots Q (F0 m pc ls rest) := lv_sipush hx hb hd hv k
theorem z_iadd (hx : p.tables.exec = Jvm.exec) (hb : c.code = cc) {a b : Int} (hd : decode cc pc = .ok (.iadd, 1)) (k : W p l e R s m args below meth c H locs cells slots Q (F0 m (pc + 1) ls (.int (zI (a + b)) :: rest))) : W p l e R s m args below meth c H locs cells slots Q (F0 m pc ls (.int (zI b) :: .int (zI a) :: rest)) := lv_iadd hx hb hd (by rw [zI_add]; exact k)
theorem z_isub (hx : p.tables.exec = Jvm.exec) (hb : c.code = cc) {a b : Int} (hd : decode cc pc = .ok (.isub, 1)) (k : W p l e R s m args below meth c H locs cells slots Q (F0 m (pc + 1) ls (.int (zI (a - b)) :: rest))) : W p l e R s m args below meth c H locs cells slots Q (F0 m pc ls (.int (zI b) :: .int (zI a) :: rest)) := lv_isub hx hb hd (by rw [zI_sub]; exact k)
theorem z_imul (hx : p.tables.exec = Jvm.exec) (hb : c.code = cc) {a b : Int} (hd : decode cc pc = .ok (.imul, 1)) (k : W p l e R s m args below meth c H locs cells slots Q (F0 m (pc + 1) ls (.int (zI (a * b)) :: rest))) : W p l e R s m args below meth c H locs cells slots Q (F0 m pc ls (.int (zI b) :: .int (zI a) :: rest)) := lv_imul hx hb hd (by rw [zI_mul]; exact k)
theorem z_ineg (hx : p.tables.exec = Jvm.exec) (hb : c.code = cc) {a : Int} (hd : decode cc pc = .ok (.ineg, 1)) (k : W p l e R s m args below meth c H locs cells slots Q (F0 m (pc + 1) ls (.int (zI (-a)) :: rest))) : W p l e R s m args below meth c H locs cells slots Q (F0 m pc ls (.int (zI a) :: rest)) := lv_ineg hx hb hd (by rw [zI_neg]; exact k)
theorem z_idiv (hx : p.tables.exec = Jvm.exec) (hb : c.code = cc) {a b : Int} (hd : decode cc pc = .ok (.idiv, 1)) (ha : 0 ≤ a ∧ a ≤ 2147483647) (hb' : 0 < b ∧ b ≤ 2147483647) (k : W p l e R s m args below meth c H locs cells slots Q (F0 m (pc + 1) ls (.int (zI (a / b)) :: rest))) : W p l e R s m args below meth c H locs cells slots Q (F0 m pc ls (.int (zI b) :: .int (zI a) :: rest)) :=
  lv_idiv hx hb hd (by rw [← zI_0, zI_inj (by omega) (by omega)]; omega) (by rw [zI_div ha hb']; exact k)
theorem z_irem (hx : p.tables.exec = Jvm.exec) (hb : c.code = cc) {a b : Int} (hd : decode cc pc = .ok (.irem, 1)) (ha : 0 ≤ a ∧ a ≤ 2147483647) (hb' : 0 < b ∧ b ≤ 2147483647) (k : W p l e R s m args below meth c H locs cells slots Q (F0 m (pc + 1) ls (.int (zI (a % b)) :: rest))) : W p l e R s m args below meth c H locs cells slots Q (F0 m pc ls (.int (zI b) :: .int (zI a) :: rest)) :=
  lv_irem hx hb hd (by rw [← zI_0, zI_inj (by omega) (by omega)]; omega) (by rw [zI_rem ha hb']; exact k)
theorem z_itdiv (hx : p.tables.exec = Jvm.exec) (hb : c.code = cc) {a b : Int} (hd : decode cc pc = .ok (.idiv, 1)) (ha : -2147483647 ≤ a ∧ a ≤ 2147483647) (hb' : -2147483648 ≤ b ∧ b ≤ 2147483647) (h0 : b ≠ 0) (k : W p l e R s m args below meth c H locs cells slots Q (F0 m (pc + 1) ls (.int (zI (a.tdiv b)) :: rest))) : W p l e R s m args below meth c H locs cells slots Q (F0 m pc ls (.int (zI b) :: .int (zI a) :: rest)) :=
  lv_idiv hx hb hd (by rw [← zI_0, zI_inj hb' (by omega)]; exact h0) (by rw [zI_tdiv ha hb']; exact k)
theorem z_itrem (hx : p.tables.exec = Jvm.exec) (hb : c.code = cc) {a b : Int} (hd : decode cc pc = .ok (.irem, 1)) (ha : -2147483647 ≤ a ∧ a ≤ 2147483647) (hb' : -2147483648 ≤ b ∧ b ≤ 2147483647) (h0 : b ≠ 0) (k : W p l e R s m args below meth c H locs cells slots Q (F0 m (pc + 1) ls (.int (zI (a.tmod b)) :: rest))) : W p l e R s m args below meth c H locs cells slots Q (F0 m pc ls (.int (zI b) :: .int (zI a) :: rest)) :=
  lv_irem hx hb hd (by rw [← zI_0, zI_inj hb' (by omega)]; exact h0) (by rw [zI_trem ha hb']; exact k)
/-- another name for the number on top -/
theorem z_top {a : Int} (b : Int) (h : a = b) (k : W p l e R s m args below meth c H locs cells slots Q (F0 m pc ls (.int (zI b) :: rest))) : W p l e R s m args below meth c H locs cells slots Q (F0 m pc ls (.int (zI a) :: rest)) := by rw [h]; exact k
theorem z_goto (hx : p.tables.exec = Jvm.exec) (hb : c.code = cc) {off : Int} {tgt : Nat} (hd : decode cc pc = .ok (.goto off, 3)) (ht : (pc : Int) + off = (tgt : Int)) (k : W p l e R s m args below meth c H locs cells slots Q (F0 m tgt ls rest)) : W p l e R s m args below meth c H locs cells slots Q (F0 m pc ls rest) := lv_goto hx hb hd ht k
end ZR
section ZC
variable {p : Program} {l : Launch} {e : Env} {R : Room} {s : State} {m : MethodId} {args : Array Value} {below : List Frame} {meth : Method} {c : Code} {H : Heap} {locs : List Loc} {cells slots : Nat} {Q : State → Prop} {cc : ByteArray} {pc : Nat} {ls : Array Slot} {rest : List Value}
theorem z_icmp_eq (hx : p.tables.exec = Jvm.exec) (hb : c.code = cc) {a b : Int} {off : Int} {tgt : Nat} (hd : decode cc pc = .ok (.if_icmp .eq off, 3)) (ht : (pc : Int) + off = (tgt : Int)) (ha : -2147483648 ≤ a ∧ a ≤ 2147483647) (hb' : -2147483648 ≤ b ∧ b ≤ 2147483647) (kt : a = b → W p l e R s m args below meth c H locs cells slots Q (F0 m tgt ls rest)) (kf : ¬ a = b → W p l e R s m args below meth c H locs cells slots Q (F0 m (pc + 3) ls rest)) : W p l e R s m args below meth c H locs cells slots Q (F0 m pc ls (.int (zI b) :: .int (zI a) :: rest)) := lv_icmp_eq hx hb hd ht (fun h => kt ((zI_inj ha hb').mp h)) (fun h => kf (fun q => h ((zI_inj ha hb').mpr q)))
theorem z_if_eq (hx : p.tables.exec = Jvm.exec) (hb : c.code = cc) {a : Int} {off : Int} {tgt : Nat} (hd : decode cc pc = .ok (.ifCond .eq off, 3)) (ht : (pc : Int) + off = (tgt : Int)) (ha : -2147483648 ≤ a ∧ a ≤ 2147483647) (kt : a = 0 → W p l e R s m args below meth c H locs cells slots Q (F0 m tgt ls rest)) (kf : ¬ a = 0 → W p l e R s m args below meth c H locs cells slots Q (F0 m (pc + 3) ls rest)) : W p l e R s m args below meth c H locs cells slots Q (F0 m pc ls (.int (zI a) :: rest)) := lv_if_eq hx hb hd ht (fun h => kt ((zI_inj ha (by omega)).mp h)) (fun h => kf (fun q => h ((zI_inj ha (by omega)).mpr q)))
theorem z_icmp_ne (hx : p.tables.exec = Jvm.exec) (hb : c.code = cc) {a b : Int} {off : Int} {tgt : Nat} (hd : decode cc pc = .ok (.if_icmp .ne off, 3)) (ht : (pc : Int) + off = (tgt : Int)) (ha : -2147483648 ≤ a ∧ a ≤ 2147483647) (hb' : -2147483648 ≤ b ∧ b ≤ 2147483647) (kt : ¬ a = b → W p l e R s m args below meth c H locs cells slots Q (F0 m tgt ls rest)) (kf : a = b → W p l e R s m args below meth c H locs cells slots Q (F0 m (pc + 3) ls rest)) : W p l e R s m args below meth c H locs cells slots Q (F0 m pc ls (.int (zI b) :: .int (zI a) :: rest)) := lv_icmp_ne hx hb hd ht (fun h => kt (fun q => h ((zI_inj ha hb').mpr q))) (fun h => kf ((zI_inj ha hb').mp h))
theorem z_if_ne (hx : p.tables.exec = Jvm.exec) (hb : c.code = cc) {a : Int} {off : Int} {tgt : Nat} (hd : decode cc pc = .ok (.ifCond .ne off, 3)) (ht : (pc : Int) + off = (tgt : Int)) (ha : -2147483648 ≤ a ∧ a ≤ 2147483647) (kt : ¬ a = 0 → W p l e R s m args below meth c H locs cells slots Q (F0 m tgt ls rest)) (kf : a = 0 → W p l e R s m args below meth c H locs cells slots Q (F0 m (pc + 3) ls rest)) : W p l e R s m args below meth c H locs cells slots Q (F0 m pc ls (.int (zI a) :: rest)) := lv_if_ne hx hb hd ht (fun h => kt (fun q => h ((zI_inj ha (by omega)).mpr q))) (fun h => kf ((zI_inj ha (by omega)).mp h))
theorem z_icmp_lt (hx : p.tables.exec = Jvm.exec) (hb : c.code = cc) {a b : Int} {off : Int} {tgt : Nat} (hd : decode cc pc = .ok (.if_icmp .lt off, 3)) (ht : (pc : Int) + off = (tgt : Int)) (ha : -2147483648 ≤ a ∧ a ≤ 2147483647) (hb' : -2147483648 ≤ b ∧ b ≤ 2147483647) (kt : a < b → W p l e R s m args below meth c H locs cells slots Q (F0 m tgt ls rest)) (kf : ¬ a < b → W p l e R s m args below meth c H locs cells slots Q (F0 m (pc + 3) ls rest)) : W p l e R s m args below meth c H locs cells slots Q (F0 m pc ls (.int (zI b) :: .int (zI a) :: rest)) := lv_icmp_lt hx hb hd ht (fun h => kt ((zI_lt ha hb').mp h)) (fun h => kf (fun q => h ((zI_lt ha hb').mpr q)))
theorem z_if_lt (hx : p.tables.exec = Jvm.exec) (hb : c.code = cc) {a : Int} {off : Int} {tgt : Nat} (hd : decode cc pc = .ok (.ifCond .lt off, 3)) (ht : (pc : Int) + off = (tgt : Int)) (ha : -2147483648 ≤ a ∧ a ≤ 2147483647) (kt : a < 0 → W p l e R s m args below meth c H locs cells slots Q (F0 m tgt ls rest)) (kf : ¬ a < 0 → W p l e R s m args below meth c H locs cells slots Q (F0 m (pc + 3) ls rest)) : W p l e R s m args below meth c H locs cells slots Q (F0 m pc ls (.int (zI a) :: rest)) := lv_if_lt hx hb hd ht (fun h => kt ((zI_lt ha (by omega)).mp h)) (fun h => kf (fun q => h ((zI_lt ha (by omega)).mpr q)))
theorem z_icmp_ge (hx : p.tables.exec = Jvm.exec) (hb : c.code = cc) {a b : Int} {off : Int} {tgt : Nat} (hd : decode cc pc = .ok (.if_icmp .ge off, 3)) (ht : (pc : Int) + off = (tgt : Int)) (ha : -2147483648 ≤ a ∧ a ≤ 2147483647) (hb' : -2147483648 ≤ b ∧ b ≤ 2147483647) (kt : b ≤ a → W p l e R s m args below meth c H locs cells slots Q (F0 m tgt ls rest)) (kf : ¬ b ≤ a → W p l e R s m args below meth c H locs cells slots Q (F0 m (pc + 3) ls rest)) : W p l e R s m args below meth c H locs cells slots Q (F0 m pc ls (.int (zI b) :: .int (zI a) :: rest)) := lv_icmp_ge hx hb hd ht (fun h => kt ((zI_le hb' ha).mp h)) (fun h => kf (fun q => h ((zI_le hb' ha).mpr q)))
theorem z_if_ge (hx : p.tables.exec = Jvm.exec) (hb : c.code = cc) {a : Int} {off : Int} {tgt : Nat} (hd : decode cc pc = .ok (.ifCond .ge off, 3)) (ht : (pc : Int) + off = (tgt : Int)) (ha : -2147483648 ≤ a ∧ a ≤ 2147483647) (kt : 0 ≤ a → W p l e R s m args below meth c H locs cells slots Q (F0 m tgt ls rest)) (kf : ¬ 0 ≤ a → W p l e R s m args below meth c H locs cells slots Q (F0 m (pc + 3) ls rest)) : W p l e R s m args below meth c H locs cells slots Q (F0 m pc ls (.int (zI a) :: rest)) := lv_if_ge hx hb hd ht (fun h => kt ((zI_le (by omega) ha).mp h)) (fun h => kf (fun q => h ((zI_le (by omega) ha).mpr q)))
theorem z_icmp_gt (hx : p.tables.exec = Jvm.exec) (hb : c.code = cc) {a b : Int} {off : Int} {tgt : Nat} (hd : decode cc pc = .ok (.if_icmp .gt off, 3)) (ht : (pc : Int) + off = (tgt : Int)) (ha : -2147483648 ≤ a ∧ a ≤ 2147483647) (hb' : -2147483648 ≤ b ∧ b ≤ 2147483647) (kt : b < a → W p l e R s m args below meth c H locs cells slots Q (F0 m tgt ls rest)) (kf : ¬ b < a → W p l e R s m args below meth c H locs cells slots Q (F0 m (pc + 3) ls rest)) : W p l e R s m args below meth c H locs cells slots Q (F0 m pc ls (.int (zI b) :: .int (zI a) :: rest)) := lv_icmp_gt hx hb hd ht (fun h => kt ((zI_lt hb' ha).mp h)) (fun h => kf (fun q => h ((zI_lt hb' ha).mpr q)))
theorem z_if_gt (hx : p.tables.exec = Jvm.exec) (hb : c.code = cc) {a : Int} {off : Int} {tgt : Nat} (hd : decode cc pc = .ok (.ifCond .gt off, 3)) (ht : (pc : Int) + off = (tgt : Int)) (ha : -2147483648 ≤ a ∧ a ≤ 2147483647) (kt : 0 < a → W p l e R s m args below meth c H locs cells slots Q (F0 m tgt ls rest)) (kf : ¬ 0 < a → W p l e R s m args below meth c H locs cells slots Q (F0 m (pc + 3) ls rest)) : W p l e R s m args below meth c H locs cells slots Q (F0 m pc ls (.int (zI a) :: rest)) := lv_if_gt hx hb hd ht (fun h => kt ((zI_lt (by omega) ha).mp h)) (fun h => kf (fun q => h ((zI_lt (by omega) ha).mpr q)))
theorem z_icmp_le (hx : p.tables.exec = Jvm.exec) (hb : c.code = cc) {a b : Int} {off : Int} {tgt : Nat} (hd : decode cc pc = .ok (.if_icmp .le off, 3)) (ht : (pc : Int) + off = (tgt : Int)) (ha : -2147483648 ≤ a ∧ a ≤ 2147483647) (hb' : -2147483648 ≤ b ∧ b ≤ 2147483647) (kt : a ≤ b → W p l e R s m args below meth c H locs cells slots Q (F0 m tgt ls rest)) (kf : ¬ a ≤ b → W p l e R s m args below meth c H locs cells slots Q (F0 m (pc + 3) ls rest)) : W p l e R s m args below meth c H locs cells slots Q (F0 m pc ls (.int (zI b) :: .int (zI a) :: rest)) := lv_icmp_le hx hb hd ht (fun h => kt ((zI_le ha hb').mp h)) (fun h => kf (fun q => h ((zI_le ha hb').mpr q)))
theorem z_if_le (hx : p.tables.exec = Jvm.exec) (hb : c.code = cc) {a : Int} {off : Int} {tgt : Nat} (hd : decode cc pc = .ok (.ifCond .le off, 3)) (ht : (pc : Int) + off = (tgt : Int)) (ha : -2147483648 ≤ a ∧ a ≤ 2147483647) (kt : a ≤ 0 → W p l e R s m args below meth c H locs cells slots Q (F0 m tgt ls rest)) (kf : ¬ a ≤ 0 → W p l e R s m args below meth c H locs cells slots Q (F0 m (pc + 3) ls rest)) : W p l e R s m args below meth c H locs cells slots Q (F0 m pc ls (.int (zI a) :: rest)) := lv_if_le hx hb hd ht (fun h => kt ((zI_le ha (by omega)).mp h)) (fun h => kf (fun q => h ((zI_le ha (by omega)).mpr q)))
theorem z_iald (hx : p.tables.exec = Jvm.exec) (hb : c.code = cc) {G : zG} {ws : va_W} (hK : zK G s) (hP : zP G ws H) (q0 : Nat) {a n : Nat} {f : Int → Int} (he : ws[q0]? = some (ia G a n f)) {i : Int} (hi : 0 ≤ i ∧ i < n ∧ i ≤ 2147483647) (hd : decode cc pc = .ok (.iaload, 1))
    (k : W p l e R s m args below meth c H locs cells slots Q (F0 m (pc + 1) ls (.int (zI (f i)) :: rest))) : W p l e R s m args below meth c H locs cells slots Q (F0 m pc ls (.int (zI i) :: .ref a :: rest)) :=
  va_iald hx hb hK hP q0 0 he rfl (zI_in ⟨hi.1, hi.2.1⟩ hi.2.2) hd (by rw [zA_at ⟨hi.1, hi.2.2⟩]; exact k)
theorem z_iast (hx : p.tables.exec = Jvm.exec) (hb : c.code = cc) {G : zG} {ws : va_W} {A : Nat → Prop} {H0 : Heap} (hK : zK G s) (hP : zP G ws H) (hD : va_D A ws) (hS : va_S A H0 H locs) (q0 : Nat) {a n : Nat} {f : Int → Int} (he : ws[q0]? = some (ia G a n f)) {i v : Int} (hi : 0 ≤ i ∧ i < n ∧ i ≤ 2147483647) (hd : decode cc pc = .ok (.iastore, 1)) {ws' : va_W} (hw : ws.set q0 (ia G a n (zu f i v)) = ws')
    (k : ∀ (H : Heap) (locs : List Loc), zP G ws' H → va_D A ws' → va_S A H0 H locs → W p l e R s m args below meth c H locs cells slots Q (F0 m (pc + 1) ls rest)) : W p l e R s m args below meth c H locs cells slots Q (F0 m pc ls (.int (zI v) :: .int (zI i) :: .ref a :: rest)) :=
  va_iast hx hb hK hP hD hS q0 0 he rfl (zI_in ⟨hi.1, hi.2.1⟩ hi.2.2) hd (fun H1 l1 p1 d1 s1 => k H1 l1 (by rw [zA_up ⟨hi.1, hi.2.2⟩, ← hw] at *; exact p1) (by rw [zA_up ⟨hi.1, hi.2.2⟩, ← hw] at *; exact d1) s1)
theorem z_alen (hx : p.tables.exec = Jvm.exec) (hb : c.code = cc) {G : zG} {ws : va_W} (hK : zK G s) (hP : zP G ws H) (q0 : Nat) {a n : Nat} {f : Int → Int} (he : ws[q0]? = some (ia G a n f)) (hd : decode cc pc = .ok (.arraylength, 1))
    (k : W p l e R s m args below meth c H locs cells slots Q (F0 m (pc + 1) ls (.int (zI (n : Int)) :: rest))) : W p l e R s m args below meth c H locs cells slots Q (F0 m pc ls (.ref a :: rest)) :=
  va_alen hx hb hK hP q0 0 he (ty := .int) rfl (zI_nI n) hd k
end ZC
section ZL
variable {p : Program} {l : Launch} {e : Env} {R : Room} {s : State} {m : MethodId} {args : Array Value} {below : List Frame} {meth : Method} {c : Code} {H : Heap} {locs : List Loc} {cells slots : Nat} {Q : State → Prop} {cc : ByteArray} {pc nL : Nat} {ls : Array Slot} {rest : List Value}
/-- a reader's start: its arguments, what it may read -/
abbrev zPr (G : zG) (av : List Value) (ws : va_W) : Array Value → State → Prop := va_Pc av (fun U => zP G ws U.heap ∧ zK G U)
theorem zPr_blind (G : zG) (av : List Value) (ws : va_W) : FrameBlind (zPr G av ws) := fun a U g mk q => ⟨q.1, q.2.1, va_K.moved (u := U) (U := U.calling g mk a) (Vm.Alike.refl U.vm) q.2.2⟩
/-- a reader's contract: it answers v, and changes nothing -/
abbrev zRd (l : Launch) (y : MethodName) (bytes : ByteArray) (maxL : Nat) (ret : Option FieldType) (rm : Room) (G : zG) (av : List Value) (ws : va_W) (v : Int) : Prop := Met l y (Cond.code y bytes maxL ret :: TB) rm (zPr G av ws) (vp_Si (fun r => r = zI v)) 0 0 (fun _ => False)
theorem z_callV {G : zG} {y : MethodName} {bytes : ByteArray} {maxL index n ci q0 b : Nat} {ret : Option FieldType} {own C : String} {rm : Room} {As : List Value} {ws : va_W} {fs : List Value} {r : vw_C} {v : Int} {st0 : List Value} (hx : p.tables.exec = Jvm.exec) (hb : c.code = cc) (hml : c.maxLocals = nL) (hown : s.vm.findClass own = some m.cls) (hT : ∀ w ∈ TB, w.before args s = true) (hK : zK G s)
    (hM : zRd l y bytes maxL ret rm G (.ref b :: As) ws v) (kc : kcV own index C y bytes maxL ret n) (hR : rm.frames + 1 ≤ R.frames ∧ 8 + (maxL + 11) + rm.locals ≤ R.locals) (hcs : rm.cells = 0 ∧ rm.slots = 0) (hcell : cells ≤ R.cells ∧ slots ≤ R.slots) (hP : zP G ws H) (he : ws[q0]? = some (b, .inr (ci, fs))) (hc : vwCl[ci]? = some r) (hC : r.1 = C) (hn : As.length = n) (hls : ls.size = nL) (hst : st0 = As.reverse ++ .ref b :: rest) (hrest : (rest.map fun v => v.category).sum ≤ 8) (hd : decode cc pc = .ok (.invokevirtual index, 3))
    (k : W p l e R s m args below meth c H locs cells slots Q (F0 m (pc + 3) ls (.int (zI v) :: rest))) : W p l e R s m args below meth c H locs cells slots Q (F0 m pc ls st0) := by
  obtain ⟨k1, k2, k3, k4, k5, k6, k7, k8, k9⟩ := kc
  subst hC
  have hG : GoodIn TB (wsV own index r.1 y (Cond.code y bytes maxL ret :: TB)) := by
    intro w hw
    have h1 : w ∈ TB := by
      rcases List.mem_append.mp hw with h | h
      · simp only [List.mem_cons, List.not_mem_nil, or_false] at h
        rcases h with rfl | rfl | rfl | rfl <;> assumption
      · exact (List.mem_cons.mp h).elim (fun q => by rw [q]; exact k1) id
    exact ⟨h1, TB_good w h1⟩
  refine vp_callSi (W.runV (As := As) (rest := rest) (g := F0 m pc ls st0) ⟨hx, hb, hml, hown, hT⟩ hM (cwV n hT hG rfl hcs.1 hcs.2 ⟨k6, k7, k8, k9⟩ hR) ⟨zPr_blind G _ _, va_recv hK hP hc he, fun U hU hW => ⟨rfl, by rw [hU]; exact hP, va_K.moved hW.alike hK⟩⟩ rfl hn hls hst (lv_room hrest) hd ⟨by omega, by omega⟩) (fun r hr => ?_)
  rw [hr]; exact k
theorem z_callS {G : zG} {y : MethodName} {bytes : ByteArray} {maxL index n : Nat} {ret : Option FieldType} {own : String} {rm : Room} {As : List Value} {ws : va_W} {v : Int} {st0 : List Value} (hx : p.tables.exec = Jvm.exec) (hb : c.code = cc) (hml : c.maxLocals = nL) (hown : s.vm.findClass own = some m.cls) (hT : ∀ w ∈ TB, w.before args s = true) (hK : zK G s)
    (hM : zRd l y bytes maxL ret rm G As ws v) (kc : kcS own index y bytes maxL ret n) (hR : rm.frames + 1 ≤ R.frames ∧ 8 + (maxL + 11) + rm.locals ≤ R.locals) (hcs : rm.cells = 0 ∧ rm.slots = 0) (hcell : cells ≤ R.cells ∧ slots ≤ R.slots) (hP : zP G ws H) (hn : As.length = n) (hls : ls.size = nL) (hst : st0 = As.reverse ++ rest) (hrest : (rest.map fun v => v.category).sum ≤ 8) (hd : decode cc pc = .ok (.invokestatic index, 3))
    (k : W p l e R s m args below meth c H locs cells slots Q (F0 m (pc + 3) ls (.int (zI v) :: rest))) : W p l e R s m args below meth c H locs cells slots Q (F0 m pc ls st0) := by
  obtain ⟨k1, k2, k3, k4, k7, k8, k9⟩ := kc
  refine vp_callSi (W.runS (As := As) (rest := rest) (g := F0 m pc ls st0) ⟨hx, hb, hml, hown, hT⟩ hM ⟨callB_of n hT (TB_self k1) rfl hcs.1 hcs.2 (hT _ k4) (hT _ k2) ⟨k7, k8, k9⟩ hR, hT _ k3⟩ ⟨zPr_blind G _ _, fun U hU hW => ⟨rfl, by rw [hU]; exact hP, va_K.moved hW.alike hK⟩⟩ rfl hn hls hst (lv_room hrest) hd ⟨by omega, by omega⟩) (fun r hr => ?_)
  rw [hr]; exact k
theorem z_iret {v w : Int} (hx : p.tables.exec = Jvm.exec) (hb : c.code = cc) (hr : meth.sig.returnType = some .int) (hlocks : meth.locks = false) (hv : v = w) (hd : decode cc pc = .ok (.ireturn, 1)) : W p l e R s m args below meth c s.heap [] 0 0 (MQ below (vp_Si (fun r => r = zI w)) args s 0 0 (fun _ => False)) (F0 m pc ls [.int (zI v)]) :=
  W.iret hx hb hr (fun t ht _ => ⟨_, rfl, by rw [hv], ht⟩) (fun q h => nomatch h) hd hlocks
theorem z_zret {v w : Int} (hx : p.tables.exec = Jvm.exec) (hb : c.code = cc) (hr : meth.sig.returnType = some .boolean) (hlocks : meth.locks = false) (h01 : v = 0 ∨ v = 1) (hv : v = w) (hd : decode cc pc = .ok (.ireturn, 1)) : W p l e R s m args below meth c s.heap [] 0 0 (MQ below (vp_Si (fun r => r = zI w)) args s 0 0 (fun _ => False)) (F0 m pc ls [.int (zI v)]) :=
  W.zret hx hb hr (by rcases h01 with rfl | rfl <;> decide) (fun t ht _ => ⟨_, rfl, by rw [hv], ht⟩) (fun q h => nomatch h) hd hlocks
theorem z_mmax (hx : p.tables.exec = Jvm.exec) (hb : c.code = cc) (hml : c.maxLocals = nL) (hls : ls.size = nL) {own : String} {index : Nat} (hown : s.vm.findClass own = some m.cls) (hT : ∀ w ∈ TB, w.before args s = true) (kc : kcS own index yJ9_max_7cf53 cJ9_max_7cf53 2 (some .int) 2) (hR : 1 ≤ R.frames ∧ (rest.map fun v => v.category).sum + 13 ≤ R.locals) (hcell : cells ≤ R.cells ∧ slots ≤ R.slots) {a b : Int} (ha : -2147483648 ≤ a ∧ a ≤ 2147483647) (hb' : -2147483648 ≤ b ∧ b ≤ 2147483647) (hd : decode cc pc = .ok (.invokestatic index, 3))
    (k : W p l e R s m args below meth c H locs cells slots Q (F0 m (pc + 3) ls (.int (zI (max a b)) :: rest))) : W p l e R s m args below meth c H locs cells slots Q (F0 m pc ls (.int (zI b) :: .int (zI a) :: rest)) := by
  obtain ⟨k1, k2, k3, k4, -⟩ := kc
  refine va_mmax hx hb (hml.trans hls.symm) hown (hT _ k2) (hT _ k3) (hT _ k4) (hT _ k1) hR.1 hR.2 hcell.1 hcell.2 hd ?_
  have h : (if zI a < zI b then zI b else zI a) = zI (max a b) := by
    by_cases q : a < b
    · rw [if_pos ((zI_lt ha hb').mpr q)]; exact congrArg zI (by omega)
    · rw [if_neg (fun w => q ((zI_lt ha hb').mp w))]; exact congrArg zI (by omega)
  rw [h]; exact k
theorem z_mmin (hx : p.tables.exec = Jvm.exec) (hb : c.code = cc) (hml : c.maxLocals = nL) (hls : ls.size = nL) {own : String} {index : Nat} (hown : s.vm.findClass own = some m.cls) (hT : ∀ w ∈ TB, w.before args s = true) (kc : kcS own index yJ9_min_7cf53 cJ9_min_7cf53 2 (some .int) 2) (hR : 1 ≤ R.frames ∧ (rest.map fun v => v.category).sum + 13 ≤ R.locals) (hcell : cells ≤ R.cells ∧ slots ≤ R.slots) {a b : Int} (ha : -2147483648 ≤ a ∧ a ≤ 2147483647) (hb' : -2147483648 ≤ b ∧ b ≤ 2147483647) (hd : decode cc pc = .ok (.invokestatic index, 3))
    (k : W p l e R s m args below meth c H locs cells slots Q (F0 m (pc + 3) ls (.int (zI (min a b)) :: rest))) : W p l e R s m args below meth c H locs cells slots Q (F0 m pc ls (.int (zI b) :: .int (zI a) :: rest)) := by
  obtain ⟨k1, k2, k3, k4, -⟩ := kc
  refine va_mmin hx hb (hml.trans hls.symm) hown (hT _ k2) (hT _ k3) (hT _ k4) (hT _ k1) hR.1 hR.2 hcell.1 hcell.2 hd ?_
  have h : (if zI b < zI a then zI b else zI a) = zI (min a b) := by
    by_cases q : b < a
    · rw [if_pos ((zI_lt hb' ha).mpr q)]; exact congrArg zI (by omega)
    · rw [if_neg (fun w => q ((zI_lt hb' ha).mp w))]; exact congrArg zI (by omega)
  rw [h]; exact k
/-- a place where roads meet: what holds there is proved once -/
theorem z_cut {σ : Type} {g : JFrame} (fr : σ → JFrame) (I : σ → Prop) (hJ : ∀ a, I a → W p l e R s m args below meth c H locs cells slots Q (fr a)) (h : (∀ a, I a → W p l e R s m args below meth c H locs cells slots Q (fr a)) → W p l e R s m args below meth c H locs cells slots Q g) : W p l e R s m args below meth c H locs cells slots Q g := h hJ
/-- a loop whose heap stays: an invariant, a measure that falls -/
theorem z_loop {σ : Type} (fr : σ → JFrame) (I : σ → Prop) (μ : σ → Nat) (hs : ∀ a, I a → (∀ b, I b → μ b < μ a → W p l e R s m args below meth c H locs cells slots Q (fr b)) → W p l e R s m args below meth c H locs cells slots Q (fr a)) (a : σ) (h : I a) : W p l e R s m args below meth c H locs cells slots Q (fr a) := by
  have key : ∀ n a, I a → μ a < n → W p l e R s m args below meth c H locs cells slots Q (fr a) := by
    intro n
    induction n with
    | zero => intro a _ h; exact absurd h (Nat.not_lt_zero _)
    | succ n ih => intro a ha hn; exact hs a ha (fun b hb hlt => ih b hb (by omega))
  exact key (μ a + 1) a h (Nat.lt_succ_self _)
end ZL
end
section
section ZF
variable {p : Program} {l : Launch} {e : Env} {R : Room} {s : State} {m : MethodId} {args : Array Value} {below : List Frame} {meth : Method} {c : Code} {H : Heap} {locs : List Loc} {cells slots : Nat} {Q : State → Prop} {cc : ByteArray} {pc : Nat} {ls : Array Slot} {rest : List Value} {G : zG} {ws ws' : va_W} {A : Nat → Prop} {H0 : Heap}
theorem gf_X2_11 (hx : p.tables.exec = Jvm.exec) (hb : c.code = cc) (hT : ∀ w ∈ TB, w.before args s = true) (hown : s.vm.findClass RX2 = some m.cls) (hK : zK G s) (hP : zP G ws H) (q0 : Nat) {a : Nat} {fs : List Value} {v : Value} (he : ws[q0]? = some (a, .inr (3, fs))) (hv : fs[0]? = some v) (hd : decode cc pc = .ok (.getfield 11, 3)) (kk : W p l e R s m args below meth c H locs cells slots Q (F0 m (pc + 3) ls (v :: rest))) : W p l e R s m args below meth c H locs cells slots Q (F0 m pc ls (.ref a :: rest)) :=
  va_get (D := G.1) (ci := 3) (C := RX2) (T := TX2) (N := 3) hx hb hT inT_X2 hown hK hP q0 he rfl 0 (by decide) (hT _ (mT 70 (by decide +kernel) rfl)) (fun _ h9 => h9) hv hd kk
theorem pf_X2_11 (hx : p.tables.exec = Jvm.exec) (hb : c.code = cc) (hT : ∀ w ∈ TB, w.before args s = true) (hown : s.vm.findClass RX2 = some m.cls) (hin : meth.name = "<init>") (hK : zK G s) (hP : zP G ws H) (hD : va_D A ws) (hS : va_S A H0 H locs) (q0 : Nat) {a : Nat} {fs : List Value} {v : Value} (he : ws[q0]? = some (a, .inr (3, fs))) (hl : 0 < fs.length) (hn : narrow (.array .int) v = v) (hf : fits (.array .int) v = true) (hw : ws.set q0 (a, .inr (3, fs.set 0 v)) = ws') (hd : decode cc pc = .ok (.putfield 11, 3)) (kk : ∀ (H : Heap) (locs : List Loc), zP G ws' H → va_D A ws' → va_S A H0 H locs → W p l e R s m args below meth c H locs cells slots Q (F0 m (pc + 3) ls rest)) : W p l e R s m args below meth c H locs cells slots Q (F0 m pc ls (v :: .ref a :: rest)) :=
  va_putF (D := G.1) (ci := 3) (ty := .array .int) (C := RX2) (T := TX2) (N := 3) hx hb hT inT_X2 tyX2 tyX2_ok nmX2 hown hK hP hD hS q0 he rfl 0 (by decide) (hT _ (mT 70 (by decide +kernel) rfl)) (fun _ h9 => h9) rfl hin rfl (by decide +kernel) hn hf hl hd (fun H1 l1 p1 d1 s1 => kk H1 l1 (by rw [← hw]; exact p1) (by rw [← hw]; exact d1) s1)
theorem gf_X2_15 (hx : p.tables.exec = Jvm.exec) (hb : c.code = cc) (hT : ∀ w ∈ TB, w.before args s = true) (hown : s.vm.findClass RX2 = some m.cls) (hK : zK G s) (hP : zP G ws H) (q0 : Nat) {a : Nat} {fs : List Value} {v : Value} (he : ws[q0]? = some (a, .inr (3, fs))) (hv : fs[1]? = some v) (hd : decode cc pc = .ok (.getfield 15, 3)) (kk : W p l e R s m args below meth c H locs cells slots Q (F0 m (pc + 3) ls (v :: rest))) : W p l e R s m args below meth c H locs cells slots Q (F0 m pc ls (.ref a :: rest)) :=
  va_get (D := G.1) (ci := 3) (C := RX2) (T := TX2) (N := 3) hx hb hT inT_X2 hown hK hP q0 he rfl 1 (by decide) (hT _ (mT 71 (by decide +kernel) rfl)) (fun _ h9 => h9) hv hd kk
theorem pf_X2_15 (hx : p.tables.exec = Jvm.exec) (hb : c.code = cc) (hT : ∀ w ∈ TB, w.before args s = true) (hown : s.vm.findClass RX2 = some m.cls) (hin : meth.name = "<init>") (hK : zK G s) (hP : zP G ws H) (hD : va_D A ws) (hS : va_S A H0 H locs) (q0 : Nat) {a : Nat} {fs : List Value} {v : Value} (he : ws[q0]? = some (a, .inr (3, fs))) (hl : 1 < fs.length) (hn : narrow (.array .int) v = v) (hf : fits (.array .int) v = true) (hw : ws.set q0 (a, .inr (3, fs.set 1 v)) = ws') (hd : decode cc pc = .ok (.putfield 15, 3)) (kk : ∀ (H : Heap) (locs : List Loc), zP G ws' H → va_D A ws' → va_S A H0 H locs → W p l e R s m args below meth c H locs cells slots Q (F0 m (pc + 3) ls rest)) : W p l e R s m args below meth c H locs cells slots Q (F0 m pc ls (v :: .ref a :: rest)) :=
  va_putF (D := G.1) (ci := 3) (ty := .array .int) (C := RX2) (T := TX2) (N := 3) hx hb hT inT_X2 tyX2 tyX2_ok nmX2 hown hK hP hD hS q0 he rfl 1 (by decide) (hT _ (mT 71 (by decide +kernel) rfl)) (fun _ h9 => h9) rfl hin rfl (by decide +kernel) hn hf hl hd (fun H1 l1 p1 d1 s1 => kk H1 l1 (by rw [← hw]; exact p1) (by rw [← hw]; exact d1) s1)
theorem gf_X4_79 (hx : p.tables.exec = Jvm.exec) (hb : c.code = cc) (hT : ∀ w ∈ TB, w.before args s = true) (hown : s.vm.findClass RX4 = some m.cls) (hK : zK G s) (hP : zP G ws H) (q0 : Nat) {a : Nat} {fs : List Value} {v : Value} (he : ws[q0]? = some (a, .inr (3, fs))) (hv : fs[1]? = some v) (hd : decode cc pc = .ok (.getfield 79, 3)) (kk : W p l e R s m args below meth c H locs cells slots Q (F0 m (pc + 3) ls (v :: rest))) : W p l e R s m args below meth c H locs cells slots Q (F0 m pc ls (.ref a :: rest)) :=
  va_get (D := G.1) (ci := 3) (C := RX2) (T := TX2) (N := 3) hx hb hT inT_X2 hown hK hP q0 he rfl 1 (by decide) (hT _ (mT 72 (by decide +kernel) rfl)) (fun _ h9 => h9) hv hd kk
theorem gf_X3_50 (hx : p.tables.exec = Jvm.exec) (hb : c.code = cc) (hT : ∀ w ∈ TB, w.before args s = true) (hown : s.vm.findClass RX3 = some m.cls) (hK : zK G s) (hP : zP G ws H) (q0 : Nat) {a : Nat} {fs : List Value} {v : Value} (he : ws[q0]? = some (a, .inr (3, fs))) (hv : fs[1]? = some v) (hd : decode cc pc = .ok (.getfield 50, 3)) (kk : W p l e R s m args below meth c H locs cells slots Q (F0 m (pc + 3) ls (v :: rest))) : W p l e R s m args below meth c H locs cells slots Q (F0 m pc ls (.ref a :: rest)) :=
  va_get (D := G.1) (ci := 3) (C := RX2) (T := TX2) (N := 3) hx hb hT inT_X2 hown hK hP q0 he rfl 1 (by decide) (hT _ (mT 73 (by decide +kernel) rfl)) (fun _ h9 => h9) hv hd kk
theorem gf_X2_18 (hx : p.tables.exec = Jvm.exec) (hb : c.code = cc) (hT : ∀ w ∈ TB, w.before args s = true) (hown : s.vm.findClass RX2 = some m.cls) (hK : zK G s) (hP : zP G ws H) (q0 : Nat) {a : Nat} {fs : List Value} {v : Value} (he : ws[q0]? = some (a, .inr (3, fs))) (hv : fs[2]? = some v) (hd : decode cc pc = .ok (.getfield 18, 3)) (kk : W p l e R s m args below meth c H locs cells slots Q (F0 m (pc + 3) ls (v :: rest))) : W p l e R s m args below meth c H locs cells slots Q (F0 m pc ls (.ref a :: rest)) :=
  va_get (D := G.1) (ci := 3) (C := RX2) (T := TX2) (N := 3) hx hb hT inT_X2 hown hK hP q0 he rfl 2 (by decide) (hT _ (mT 74 (by decide +kernel) rfl)) (fun _ h9 => h9) hv hd kk
theorem pf_X2_18 (hx : p.tables.exec = Jvm.exec) (hb : c.code = cc) (hT : ∀ w ∈ TB, w.before args s = true) (hown : s.vm.findClass RX2 = some m.cls) (hK : zK G s) (hP : zP G ws H) (hD : va_D A ws) (hS : va_S A H0 H locs) (q0 : Nat) {a : Nat} {fs : List Value} {v : Value} (he : ws[q0]? = some (a, .inr (3, fs))) (hl : 2 < fs.length) (hn : narrow (.int) v = v) (hf : fits (.int) v = true) (hw : ws.set q0 (a, .inr (3, fs.set 2 v)) = ws') (hd : decode cc pc = .ok (.putfield 18, 3)) (kk : ∀ (H : Heap) (locs : List Loc), zP G ws' H → va_D A ws' → va_S A H0 H locs → W p l e R s m args below meth c H locs cells slots Q (F0 m (pc + 3) ls rest)) : W p l e R s m args below meth c H locs cells slots Q (F0 m pc ls (v :: .ref a :: rest)) :=
  va_put (D := G.1) (ci := 3) (ty := .int) (C := RX2) (T := TX2) (N := 3) hx hb hT inT_X2 tyX2 tyX2_ok nmX2 hown hK hP hD hS q0 he rfl 2 (by decide) (hT _ (mT 74 (by decide +kernel) rfl)) (fun _ h9 => h9) rfl (by decide +kernel) hn hf hl hd (fun H1 l1 p1 d1 s1 => kk H1 l1 (by rw [← hw]; exact p1) (by rw [← hw]; exact d1) s1)
theorem gf_X4_59 (hx : p.tables.exec = Jvm.exec) (hb : c.code = cc) (hT : ∀ w ∈ TB, w.before args s = true) (hown : s.vm.findClass RX4 = some m.cls) (hK : zK G s) (hP : zP G ws H) (q0 : Nat) {a : Nat} {fs : List Value} {v : Value} (he : ws[q0]? = some (a, .inr (3, fs))) (hv : fs[2]? = some v) (hd : decode cc pc = .ok (.getfield 59, 3)) (kk : W p l e R s m args below meth c H locs cells slots Q (F0 m (pc + 3) ls (v :: rest))) : W p l e R s m args below meth c H locs cells slots Q (F0 m pc ls (.ref a :: rest)) :=
  va_get (D := G.1) (ci := 3) (C := RX2) (T := TX2) (N := 3) hx hb hT inT_X2 hown hK hP q0 he rfl 2 (by decide) (hT _ (mT 75 (by decide +kernel) rfl)) (fun _ h9 => h9) hv hd kk
theorem pf_X4_59 (hx : p.tables.exec = Jvm.exec) (hb : c.code = cc) (hT : ∀ w ∈ TB, w.before args s = true) (hown : s.vm.findClass RX4 = some m.cls) (hK : zK G s) (hP : zP G ws H) (hD : va_D A ws) (hS : va_S A H0 H locs) (q0 : Nat) {a : Nat} {fs : List Value} {v : Value} (he : ws[q0]? = some (a, .inr (3, fs))) (hl : 2 < fs.length) (hn : narrow (.int) v = v) (hf : fits (.int) v = true) (hw : ws.set q0 (a, .inr (3, fs.set 2 v)) = ws') (hd : decode cc pc = .ok (.putfield 59, 3)) (kk : ∀ (H : Heap) (locs : List Loc), zP G ws' H → va_D A ws' → va_S A H0 H locs → W p l e R s m args below meth c H locs cells slots Q (F0 m (pc + 3) ls rest)) : W p l e R s m args below meth c H locs cells slots Q (F0 m pc ls (v :: .ref a :: rest)) :=
  va_put (D := G.1) (ci := 3) (ty := .int) (C := RX2) (T := TX2) (N := 3) hx hb hT inT_X2 tyX2 tyX2_ok nmX2 hown hK hP hD hS q0 he rfl 2 (by decide) (hT _ (mT 75 (by decide +kernel) rfl)) (fun _ h9 => h9) rfl (by decide +kernel) hn hf hl hd (fun H1 l1 p1 d1 s1 => kk H1 l1 (by rw [← hw]; exact p1) (by rw [← hw]; exact d1) s1)
theorem gf_X3_47 (hx : p.tables.exec = Jvm.exec) (hb : c.code = cc) (hT : ∀ w ∈ TB, w.before args s = true) (hown : s.vm.findClass RX3 = some m.cls) (hK : zK G s) (hP : zP G ws H) (q0 : Nat) {a : Nat} {fs : List Value} {v : Value} (he : ws[q0]? = some (a, .inr (3, fs))) (hv : fs[2]? = some v) (hd : decode cc pc = .ok (.getfield 47, 3)) (kk : W p l e R s m args below meth c H locs cells slots Q (F0 m (pc + 3) ls (v :: rest))) : W p l e R s m args below meth c H locs cells slots Q (F0 m pc ls (.ref a :: rest)) :=
  va_get (D := G.1) (ci := 3) (C := RX2) (T := TX2) (N := 3) hx hb hT inT_X2 hown hK hP q0 he rfl 2 (by decide) (hT _ (mT 76 (by decide +kernel) rfl)) (fun _ h9 => h9) hv hd kk
theorem pf_X3_47 (hx : p.tables.exec = Jvm.exec) (hb : c.code = cc) (hT : ∀ w ∈ TB, w.before args s = true) (hown : s.vm.findClass RX3 = some m.cls) (hK : zK G s) (hP : zP G ws H) (hD : va_D A ws) (hS : va_S A H0 H locs) (q0 : Nat) {a : Nat} {fs : List Value} {v : Value} (he : ws[q0]? = some (a, .inr (3, fs))) (hl : 2 < fs.length) (hn : narrow (.int) v = v) (hf : fits (.int) v = true) (hw : ws.set q0 (a, .inr (3, fs.set 2 v)) = ws') (hd : decode cc pc = .ok (.putfield 47, 3)) (kk : ∀ (H : Heap) (locs : List Loc), zP G ws' H → va_D A ws' → va_S A H0 H locs → W p l e R s m args below meth c H locs cells slots Q (F0 m (pc + 3) ls rest)) : W p l e R s m args below meth c H locs cells slots Q (F0 m pc ls (v :: .ref a :: rest)) :=
  va_put (D := G.1) (ci := 3) (ty := .int) (C := RX2) (T := TX2) (N := 3) hx hb hT inT_X2 tyX2 tyX2_ok nmX2 hown hK hP hD hS q0 he rfl 2 (by decide) (hT _ (mT 76 (by decide +kernel) rfl)) (fun _ h9 => h9) rfl (by decide +kernel) hn hf hl hd (fun H1 l1 p1 d1 s1 => kk H1 l1 (by rw [← hw]; exact p1) (by rw [← hw]; exact d1) s1)
theorem gf_X3_25 (hx : p.tables.exec = Jvm.exec) (hb : c.code = cc) (hT : ∀ w ∈ TB, w.before args s = true) (hown : s.vm.findClass RX3 = some m.cls) (hK : zK G s) (hP : zP G ws H) (q0 : Nat) {a : Nat} {fs : List Value} {v : Value} (he : ws[q0]? = some (a, .inr (4, fs))) (hv : fs[0]? = some v) (hd : decode cc pc = .ok (.getfield 25, 3)) (kk : W p l e R s m args below meth c H locs cells slots Q (F0 m (pc + 3) ls (v :: rest))) : W p l e R s m args below meth c H locs cells slots Q (F0 m pc ls (.ref a :: rest)) :=
  va_get (D := G.1) (ci := 4) (C := RX3) (T := TX3) (N := 7) hx hb hT inT_X3 hown hK hP q0 he rfl 0 (by decide) (hT _ (mT 85 (by decide +kernel) rfl)) (fun _ h9 => h9) hv hd kk
theorem pf_X3_25 (hx : p.tables.exec = Jvm.exec) (hb : c.code = cc) (hT : ∀ w ∈ TB, w.before args s = true) (hown : s.vm.findClass RX3 = some m.cls) (hin : meth.name = "<init>") (hK : zK G s) (hP : zP G ws H) (hD : va_D A ws) (hS : va_S A H0 H locs) (q0 : Nat) {a : Nat} {fs : List Value} {v : Value} (he : ws[q0]? = some (a, .inr (4, fs))) (hl : 0 < fs.length) (hn : narrow (.int) v = v) (hf : fits (.int) v = true) (hw : ws.set q0 (a, .inr (4, fs.set 0 v)) = ws') (hd : decode cc pc = .ok (.putfield 25, 3)) (kk : ∀ (H : Heap) (locs : List Loc), zP G ws' H → va_D A ws' → va_S A H0 H locs → W p l e R s m args below meth c H locs cells slots Q (F0 m (pc + 3) ls rest)) : W p l e R s m args below meth c H locs cells slots Q (F0 m pc ls (v :: .ref a :: rest)) :=
  va_putF (D := G.1) (ci := 4) (ty := .int) (C := RX3) (T := TX3) (N := 7) hx hb hT inT_X3 tyX3 tyX3_ok nmX3 hown hK hP hD hS q0 he rfl 0 (by decide) (hT _ (mT 85 (by decide +kernel) rfl)) (fun _ h9 => h9) rfl hin rfl (by decide +kernel) hn hf hl hd (fun H1 l1 p1 d1 s1 => kk H1 l1 (by rw [← hw]; exact p1) (by rw [← hw]; exact d1) s1)
theorem gf_X4_83 (hx : p.tables.exec = Jvm.exec) (hb : c.code = cc) (hT : ∀ w ∈ TB, w.before args s = true) (hown : s.vm.findClass RX4 = some m.cls) (hK : zK G s) (hP : zP G ws H) (q0 : Nat) {a : Nat} {fs : List Value} {v : Value} (he : ws[q0]? = some (a, .inr (4, fs))) (hv : fs[0]? = some v) (hd : decode cc pc = .ok (.getfield 83, 3)) (kk : W p l e R s m args below meth c H locs cells slots Q (F0 m (pc + 3) ls (v :: rest))) : W p l e R s m args below meth c H locs cells slots Q (F0 m pc ls (.ref a :: rest)) :=
  va_get (D := G.1) (ci := 4) (C := RX3) (T := TX3) (N := 7) hx hb hT inT_X3 hown hK hP q0 he rfl 0 (by decide) (hT _ (mT 86 (by decide +kernel) rfl)) (fun _ h9 => h9) hv hd kk
theorem gf_X3_28 (hx : p.tables.exec = Jvm.exec) (hb : c.code = cc) (hT : ∀ w ∈ TB, w.before args s = true) (hown : s.vm.findClass RX3 = some m.cls) (hK : zK G s) (hP : zP G ws H) (q0 : Nat) {a : Nat} {fs : List Value} {v : Value} (he : ws[q0]? = some (a, .inr (4, fs))) (hv : fs[1]? = some v) (hd : decode cc pc = .ok (.getfield 28, 3)) (kk : W p l e R s m args below meth c H locs cells slots Q (F0 m (pc + 3) ls (v :: rest))) : W p l e R s m args below meth c H locs cells slots Q (F0 m pc ls (.ref a :: rest)) :=
  va_get (D := G.1) (ci := 4) (C := RX3) (T := TX3) (N := 7) hx hb hT inT_X3 hown hK hP q0 he rfl 1 (by decide) (hT _ (mT 87 (by decide +kernel) rfl)) (fun _ h9 => h9) hv hd kk
theorem pf_X3_28 (hx : p.tables.exec = Jvm.exec) (hb : c.code = cc) (hT : ∀ w ∈ TB, w.before args s = true) (hown : s.vm.findClass RX3 = some m.cls) (hin : meth.name = "<init>") (hK : zK G s) (hP : zP G ws H) (hD : va_D A ws) (hS : va_S A H0 H locs) (q0 : Nat) {a : Nat} {fs : List Value} {v : Value} (he : ws[q0]? = some (a, .inr (4, fs))) (hl : 1 < fs.length) (hn : narrow (.int) v = v) (hf : fits (.int) v = true) (hw : ws.set q0 (a, .inr (4, fs.set 1 v)) = ws') (hd : decode cc pc = .ok (.putfield 28, 3)) (kk : ∀ (H : Heap) (locs : List Loc), zP G ws' H → va_D A ws' → va_S A H0 H locs → W p l e R s m args below meth c H locs cells slots Q (F0 m (pc + 3) ls rest)) : W p l e R s m args below meth c H locs cells slots Q (F0 m pc ls (v :: .ref a :: rest)) :=
  va_putF (D := G.1) (ci := 4) (ty := .int) (C := RX3) (T := TX3) (N := 7) hx hb hT inT_X3 tyX3 tyX3_ok nmX3 hown hK hP hD hS q0 he rfl 1 (by decide) (hT _ (mT 87 (by decide +kernel) rfl)) (fun _ h9 => h9) rfl hin rfl (by decide +kernel) hn hf hl hd (fun H1 l1 p1 d1 s1 => kk H1 l1 (by rw [← hw]; exact p1) (by rw [← hw]; exact d1) s1)
theorem gf_X4_86 (hx : p.tables.exec = Jvm.exec) (hb : c.code = cc) (hT : ∀ w ∈ TB, w.before args s = true) (hown : s.vm.findClass RX4 = some m.cls) (hK : zK G s) (hP : zP G ws H) (q0 : Nat) {a : Nat} {fs : List Value} {v : Value} (he : ws[q0]? = some (a, .inr (4, fs))) (hv : fs[1]? = some v) (hd : decode cc pc = .ok (.getfield 86, 3)) (kk : W p l e R s m args below meth c H locs cells slots Q (F0 m (pc + 3) ls (v :: rest))) : W p l e R s m args below meth c H locs cells slots Q (F0 m pc ls (.ref a :: rest)) :=
  va_get (D := G.1) (ci := 4) (C := RX3) (T := TX3) (N := 7) hx hb hT inT_X3 hown hK hP q0 he rfl 1 (by decide) (hT _ (mT 88 (by decide +kernel) rfl)) (fun _ h9 => h9) hv hd kk
theorem gf_X3_31 (hx : p.tables.exec = Jvm.exec) (hb : c.code = cc) (hT : ∀ w ∈ TB, w.before args s = true) (hown : s.vm.findClass RX3 = some m.cls) (hK : zK G s) (hP : zP G ws H) (q0 : Nat) {a : Nat} {fs : List Value} {v : Value} (he : ws[q0]? = some (a, .inr (4, fs))) (hv : fs[2]? = some v) (hd : decode cc pc = .ok (.getfield 31, 3)) (kk : W p l e R s m args below meth c H locs cells slots Q (F0 m (pc + 3) ls (v :: rest))) : W p l e R s m args below meth c H locs cells slots Q (F0 m pc ls (.ref a :: rest)) :=
  va_get (D := G.1) (ci := 4) (C := RX3) (T := TX3) (N := 7) hx hb hT inT_X3 hown hK hP q0 he rfl 2 (by decide) (hT _ (mT 89 (by decide +kernel) rfl)) (fun _ h9 => h9) hv hd kk
theorem pf_X3_31 (hx : p.tables.exec = Jvm.exec) (hb : c.code = cc) (hT : ∀ w ∈ TB, w.before args s = true) (hown : s.vm.findClass RX3 = some m.cls) (hin : meth.name = "<init>") (hK : zK G s) (hP : zP G ws H) (hD : va_D A ws) (hS : va_S A H0 H locs) (q0 : Nat) {a : Nat} {fs : List Value} {v : Value} (he : ws[q0]? = some (a, .inr (4, fs))) (hl : 2 < fs.length) (hn : narrow (.int) v = v) (hf : fits (.int) v = true) (hw : ws.set q0 (a, .inr (4, fs.set 2 v)) = ws') (hd : decode cc pc = .ok (.putfield 31, 3)) (kk : ∀ (H : Heap) (locs : List Loc), zP G ws' H → va_D A ws' → va_S A H0 H locs → W p l e R s m args below meth c H locs cells slots Q (F0 m (pc + 3) ls rest)) : W p l e R s m args below meth c H locs cells slots Q (F0 m pc ls (v :: .ref a :: rest)) :=
  va_putF (D := G.1) (ci := 4) (ty := .int) (C := RX3) (T := TX3) (N := 7) hx hb hT inT_X3 tyX3 tyX3_ok nmX3 hown hK hP hD hS q0 he rfl 2 (by decide) (hT _ (mT 89 (by decide +kernel) rfl)) (fun _ h9 => h9) rfl hin rfl (by decide +kernel) hn hf hl hd (fun H1 l1 p1 d1 s1 => kk H1 l1 (by rw [← hw]; exact p1) (by rw [← hw]; exact d1) s1)
theorem gf_X4_171 (hx : p.tables.exec = Jvm.exec) (hb : c.code = cc) (hT : ∀ w ∈ TB, w.before args s = true) (hown : s.vm.findClass RX4 = some m.cls) (hK : zK G s) (hP : zP G ws H) (q0 : Nat) {a : Nat} {fs : List Value} {v : Value} (he : ws[q0]? = some (a, .inr (4, fs))) (hv : fs[2]? = some v) (hd : decode cc pc = .ok (.getfield 171, 3)) (kk : W p l e R s m args below meth c H locs cells slots Q (F0 m (pc + 3) ls (v :: rest))) : W p l e R s m args below meth c H locs cells slots Q (F0 m pc ls (.ref a :: rest)) :=
  va_get (D := G.1) (ci := 4) (C := RX3) (T := TX3) (N := 7) hx hb hT inT_X3 hown hK hP q0 he rfl 2 (by decide) (hT _ (mT 90 (by decide +kernel) rfl)) (fun _ h9 => h9) hv hd kk
theorem gf_X3_14 (hx : p.tables.exec = Jvm.exec) (hb : c.code = cc) (hT : ∀ w ∈ TB, w.before args s = true) (hown : s.vm.findClass RX3 = some m.cls) (hK : zK G s) (hP : zP G ws H) (q0 : Nat) {a : Nat} {fs : List Value} {v : Value} (he : ws[q0]? = some (a, .inr (4, fs))) (hv : fs[3]? = some v) (hd : decode cc pc = .ok (.getfield 14, 3)) (kk : W p l e R s m args below meth c H locs cells slots Q (F0 m (pc + 3) ls (v :: rest))) : W p l e R s m args below meth c H locs cells slots Q (F0 m pc ls (.ref a :: rest)) :=
  va_get (D := G.1) (ci := 4) (C := RX3) (T := TX3) (N := 7) hx hb hT inT_X3 hown hK hP q0 he rfl 3 (by decide) (hT _ (mT 91 (by decide +kernel) rfl)) (fun _ h9 => h9) hv hd kk
theorem pf_X3_14 (hx : p.tables.exec = Jvm.exec) (hb : c.code = cc) (hT : ∀ w ∈ TB, w.before args s = true) (hown : s.vm.findClass RX3 = some m.cls) (hin : meth.name = "<init>") (hK : zK G s) (hP : zP G ws H) (hD : va_D A ws) (hS : va_S A H0 H locs) (q0 : Nat) {a : Nat} {fs : List Value} {v : Value} (he : ws[q0]? = some (a, .inr (4, fs))) (hl : 3 < fs.length) (hn : narrow (.object "SeparateScreens$Inks") v = v) (hf : fits (.object "SeparateScreens$Inks") v = true) (hw : ws.set q0 (a, .inr (4, fs.set 3 v)) = ws') (hd : decode cc pc = .ok (.putfield 14, 3)) (kk : ∀ (H : Heap) (locs : List Loc), zP G ws' H → va_D A ws' → va_S A H0 H locs → W p l e R s m args below meth c H locs cells slots Q (F0 m (pc + 3) ls rest)) : W p l e R s m args below meth c H locs cells slots Q (F0 m pc ls (v :: .ref a :: rest)) :=
  va_putF (D := G.1) (ci := 4) (ty := .object "SeparateScreens$Inks") (C := RX3) (T := TX3) (N := 7) hx hb hT inT_X3 tyX3 tyX3_ok nmX3 hown hK hP hD hS q0 he rfl 3 (by decide) (hT _ (mT 91 (by decide +kernel) rfl)) (fun _ h9 => h9) rfl hin rfl (by decide +kernel) hn hf hl hd (fun H1 l1 p1 d1 s1 => kk H1 l1 (by rw [← hw]; exact p1) (by rw [← hw]; exact d1) s1)
theorem gf_X4_55 (hx : p.tables.exec = Jvm.exec) (hb : c.code = cc) (hT : ∀ w ∈ TB, w.before args s = true) (hown : s.vm.findClass RX4 = some m.cls) (hK : zK G s) (hP : zP G ws H) (q0 : Nat) {a : Nat} {fs : List Value} {v : Value} (he : ws[q0]? = some (a, .inr (4, fs))) (hv : fs[3]? = some v) (hd : decode cc pc = .ok (.getfield 55, 3)) (kk : W p l e R s m args below meth c H locs cells slots Q (F0 m (pc + 3) ls (v :: rest))) : W p l e R s m args below meth c H locs cells slots Q (F0 m pc ls (.ref a :: rest)) :=
  va_get (D := G.1) (ci := 4) (C := RX3) (T := TX3) (N := 7) hx hb hT inT_X3 hown hK hP q0 he rfl 3 (by decide) (hT _ (mT 92 (by decide +kernel) rfl)) (fun _ h9 => h9) hv hd kk
theorem gf_X3_34 (hx : p.tables.exec = Jvm.exec) (hb : c.code = cc) (hT : ∀ w ∈ TB, w.before args s = true) (hown : s.vm.findClass RX3 = some m.cls) (hK : zK G s) (hP : zP G ws H) (q0 : Nat) {a : Nat} {fs : List Value} {v : Value} (he : ws[q0]? = some (a, .inr (4, fs))) (hv : fs[4]? = some v) (hd : decode cc pc = .ok (.getfield 34, 3)) (kk : W p l e R s m args below meth c H locs cells slots Q (F0 m (pc + 3) ls (v :: rest))) : W p l e R s m args below meth c H locs cells slots Q (F0 m pc ls (.ref a :: rest)) :=
  va_get (D := G.1) (ci := 4) (C := RX3) (T := TX3) (N := 7) hx hb hT inT_X3 hown hK hP q0 he rfl 4 (by decide) (hT _ (mT 93 (by decide +kernel) rfl)) (fun _ h9 => h9) hv hd kk
theorem pf_X3_34 (hx : p.tables.exec = Jvm.exec) (hb : c.code = cc) (hT : ∀ w ∈ TB, w.before args s = true) (hown : s.vm.findClass RX3 = some m.cls) (hin : meth.name = "<init>") (hK : zK G s) (hP : zP G ws H) (hD : va_D A ws) (hS : va_S A H0 H locs) (q0 : Nat) {a : Nat} {fs : List Value} {v : Value} (he : ws[q0]? = some (a, .inr (4, fs))) (hl : 4 < fs.length) (hn : narrow (.array .int) v = v) (hf : fits (.array .int) v = true) (hw : ws.set q0 (a, .inr (4, fs.set 4 v)) = ws') (hd : decode cc pc = .ok (.putfield 34, 3)) (kk : ∀ (H : Heap) (locs : List Loc), zP G ws' H → va_D A ws' → va_S A H0 H locs → W p l e R s m args below meth c H locs cells slots Q (F0 m (pc + 3) ls rest)) : W p l e R s m args below meth c H locs cells slots Q (F0 m pc ls (v :: .ref a :: rest)) :=
  va_putF (D := G.1) (ci := 4) (ty := .array .int) (C := RX3) (T := TX3) (N := 7) hx hb hT inT_X3 tyX3 tyX3_ok nmX3 hown hK hP hD hS q0 he rfl 4 (by decide) (hT _ (mT 93 (by decide +kernel) rfl)) (fun _ h9 => h9) rfl hin rfl (by decide +kernel) hn hf hl hd (fun H1 l1 p1 d1 s1 => kk H1 l1 (by rw [← hw]; exact p1) (by rw [← hw]; exact d1) s1)
theorem gf_X3_18 (hx : p.tables.exec = Jvm.exec) (hb : c.code = cc) (hT : ∀ w ∈ TB, w.before args s = true) (hown : s.vm.findClass RX3 = some m.cls) (hK : zK G s) (hP : zP G ws H) (q0 : Nat) {a : Nat} {fs : List Value} {v : Value} (he : ws[q0]? = some (a, .inr (4, fs))) (hv : fs[5]? = some v) (hd : decode cc pc = .ok (.getfield 18, 3)) (kk : W p l e R s m args below meth c H locs cells slots Q (F0 m (pc + 3) ls (v :: rest))) : W p l e R s m args below meth c H locs cells slots Q (F0 m pc ls (.ref a :: rest)) :=
  va_get (D := G.1) (ci := 4) (C := RX3) (T := TX3) (N := 7) hx hb hT inT_X3 hown hK hP q0 he rfl 5 (by decide) (hT _ (mT 94 (by decide +kernel) rfl)) (fun _ h9 => h9) hv hd kk
theorem pf_X3_18 (hx : p.tables.exec = Jvm.exec) (hb : c.code = cc) (hT : ∀ w ∈ TB, w.before args s = true) (hown : s.vm.findClass RX3 = some m.cls) (hK : zK G s) (hP : zP G ws H) (hD : va_D A ws) (hS : va_S A H0 H locs) (q0 : Nat) {a : Nat} {fs : List Value} {v : Value} (he : ws[q0]? = some (a, .inr (4, fs))) (hl : 5 < fs.length) (hn : narrow (.int) v = v) (hf : fits (.int) v = true) (hw : ws.set q0 (a, .inr (4, fs.set 5 v)) = ws') (hd : decode cc pc = .ok (.putfield 18, 3)) (kk : ∀ (H : Heap) (locs : List Loc), zP G ws' H → va_D A ws' → va_S A H0 H locs → W p l e R s m args below meth c H locs cells slots Q (F0 m (pc + 3) ls rest)) : W p l e R s m args below meth c H locs cells slots Q (F0 m pc ls (v :: .ref a :: rest)) :=
  va_put (D := G.1) (ci := 4) (ty := .int) (C := RX3) (T := TX3) (N := 7) hx hb hT inT_X3 tyX3 tyX3_ok nmX3 hown hK hP hD hS q0 he rfl 5 (by decide) (hT _ (mT 94 (by decide +kernel) rfl)) (fun _ h9 => h9) rfl (by decide +kernel) hn hf hl hd (fun H1 l1 p1 d1 s1 => kk H1 l1 (by rw [← hw]; exact p1) (by rw [← hw]; exact d1) s1)
theorem gf_X4_95 (hx : p.tables.exec = Jvm.exec) (hb : c.code = cc) (hT : ∀ w ∈ TB, w.before args s = true) (hown : s.vm.findClass RX4 = some m.cls) (hK : zK G s) (hP : zP G ws H) (q0 : Nat) {a : Nat} {fs : List Value} {v : Value} (he : ws[q0]? = some (a, .inr (4, fs))) (hv : fs[5]? = some v) (hd : decode cc pc = .ok (.getfield 95, 3)) (kk : W p l e R s m args below meth c H locs cells slots Q (F0 m (pc + 3) ls (v :: rest))) : W p l e R s m args below meth c H locs cells slots Q (F0 m pc ls (.ref a :: rest)) :=
  va_get (D := G.1) (ci := 4) (C := RX3) (T := TX3) (N := 7) hx hb hT inT_X3 hown hK hP q0 he rfl 5 (by decide) (hT _ (mT 95 (by decide +kernel) rfl)) (fun _ h9 => h9) hv hd kk
theorem pf_X4_95 (hx : p.tables.exec = Jvm.exec) (hb : c.code = cc) (hT : ∀ w ∈ TB, w.before args s = true) (hown : s.vm.findClass RX4 = some m.cls) (hK : zK G s) (hP : zP G ws H) (hD : va_D A ws) (hS : va_S A H0 H locs) (q0 : Nat) {a : Nat} {fs : List Value} {v : Value} (he : ws[q0]? = some (a, .inr (4, fs))) (hl : 5 < fs.length) (hn : narrow (.int) v = v) (hf : fits (.int) v = true) (hw : ws.set q0 (a, .inr (4, fs.set 5 v)) = ws') (hd : decode cc pc = .ok (.putfield 95, 3)) (kk : ∀ (H : Heap) (locs : List Loc), zP G ws' H → va_D A ws' → va_S A H0 H locs → W p l e R s m args below meth c H locs cells slots Q (F0 m (pc + 3) ls rest)) : W p l e R s m args below meth c H locs cells slots Q (F0 m pc ls (v :: .ref a :: rest)) :=
  va_put (D := G.1) (ci := 4) (ty := .int) (C := RX3) (T := TX3) (N := 7) hx hb hT inT_X3 tyX3 tyX3_ok nmX3 hown hK hP hD hS q0 he rfl 5 (by decide) (hT _ (mT 95 (by decide +kernel) rfl)) (fun _ h9 => h9) rfl (by decide +kernel) hn hf hl hd (fun H1 l1 p1 d1 s1 => kk H1 l1 (by rw [← hw]; exact p1) (by rw [← hw]; exact d1) s1)
theorem gf_X3_22 (hx : p.tables.exec = Jvm.exec) (hb : c.code = cc) (hT : ∀ w ∈ TB, w.before args s = true) (hown : s.vm.findClass RX3 = some m.cls) (hK : zK G s) (hP : zP G ws H) (q0 : Nat) {a : Nat} {fs : List Value} {v : Value} (he : ws[q0]? = some (a, .inr (4, fs))) (hv : fs[6]? = some v) (hd : decode cc pc = .ok (.getfield 22, 3)) (kk : W p l e R s m args below meth c H locs cells slots Q (F0 m (pc + 3) ls (v :: rest))) : W p l e R s m args below meth c H locs cells slots Q (F0 m pc ls (.ref a :: rest)) :=
  va_get (D := G.1) (ci := 4) (C := RX3) (T := TX3) (N := 7) hx hb hT inT_X3 hown hK hP q0 he rfl 6 (by decide) (hT _ (mT 96 (by decide +kernel) rfl)) (fun _ h9 => h9) hv hd kk
theorem pf_X3_22 (hx : p.tables.exec = Jvm.exec) (hb : c.code = cc) (hT : ∀ w ∈ TB, w.before args s = true) (hown : s.vm.findClass RX3 = some m.cls) (hK : zK G s) (hP : zP G ws H) (hD : va_D A ws) (hS : va_S A H0 H locs) (q0 : Nat) {a : Nat} {fs : List Value} {v : Value} (he : ws[q0]? = some (a, .inr (4, fs))) (hl : 6 < fs.length) (hn : narrow (.int) v = v) (hf : fits (.int) v = true) (hw : ws.set q0 (a, .inr (4, fs.set 6 v)) = ws') (hd : decode cc pc = .ok (.putfield 22, 3)) (kk : ∀ (H : Heap) (locs : List Loc), zP G ws' H → va_D A ws' → va_S A H0 H locs → W p l e R s m args below meth c H locs cells slots Q (F0 m (pc + 3) ls rest)) : W p l e R s m args below meth c H locs cells slots Q (F0 m pc ls (v :: .ref a :: rest)) :=
  va_put (D := G.1) (ci := 4) (ty := .int) (C := RX3) (T := TX3) (N := 7) hx hb hT inT_X3 tyX3 tyX3_ok nmX3 hown hK hP hD hS q0 he rfl 6 (by decide) (hT _ (mT 96 (by decide +kernel) rfl)) (fun _ h9 => h9) rfl (by decide +kernel) hn hf hl hd (fun H1 l1 p1 d1 s1 => kk H1 l1 (by rw [← hw]; exact p1) (by rw [← hw]; exact d1) s1)
theorem gf_X4_124 (hx : p.tables.exec = Jvm.exec) (hb : c.code = cc) (hT : ∀ w ∈ TB, w.before args s = true) (hown : s.vm.findClass RX4 = some m.cls) (hK : zK G s) (hP : zP G ws H) (q0 : Nat) {a : Nat} {fs : List Value} {v : Value} (he : ws[q0]? = some (a, .inr (4, fs))) (hv : fs[6]? = some v) (hd : decode cc pc = .ok (.getfield 124, 3)) (kk : W p l e R s m args below meth c H locs cells slots Q (F0 m (pc + 3) ls (v :: rest))) : W p l e R s m args below meth c H locs cells slots Q (F0 m pc ls (.ref a :: rest)) :=
  va_get (D := G.1) (ci := 4) (C := RX3) (T := TX3) (N := 7) hx hb hT inT_X3 hown hK hP q0 he rfl 6 (by decide) (hT _ (mT 97 (by decide +kernel) rfl)) (fun _ h9 => h9) hv hd kk
theorem pf_X4_124 (hx : p.tables.exec = Jvm.exec) (hb : c.code = cc) (hT : ∀ w ∈ TB, w.before args s = true) (hown : s.vm.findClass RX4 = some m.cls) (hK : zK G s) (hP : zP G ws H) (hD : va_D A ws) (hS : va_S A H0 H locs) (q0 : Nat) {a : Nat} {fs : List Value} {v : Value} (he : ws[q0]? = some (a, .inr (4, fs))) (hl : 6 < fs.length) (hn : narrow (.int) v = v) (hf : fits (.int) v = true) (hw : ws.set q0 (a, .inr (4, fs.set 6 v)) = ws') (hd : decode cc pc = .ok (.putfield 124, 3)) (kk : ∀ (H : Heap) (locs : List Loc), zP G ws' H → va_D A ws' → va_S A H0 H locs → W p l e R s m args below meth c H locs cells slots Q (F0 m (pc + 3) ls rest)) : W p l e R s m args below meth c H locs cells slots Q (F0 m pc ls (v :: .ref a :: rest)) :=
  va_put (D := G.1) (ci := 4) (ty := .int) (C := RX3) (T := TX3) (N := 7) hx hb hT inT_X3 tyX3 tyX3_ok nmX3 hown hK hP hD hS q0 he rfl 6 (by decide) (hT _ (mT 97 (by decide +kernel) rfl)) (fun _ h9 => h9) rfl (by decide +kernel) hn hf hl hd (fun H1 l1 p1 d1 s1 => kk H1 l1 (by rw [← hw]; exact p1) (by rw [← hw]; exact d1) s1)
theorem gf_X1_11 (hx : p.tables.exec = Jvm.exec) (hb : c.code = cc) (hT : ∀ w ∈ TB, w.before args s = true) (hown : s.vm.findClass RX1 = some m.cls) (hK : zK G s) (hP : zP G ws H) (q0 : Nat) {a : Nat} {fs : List Value} {v : Value} (he : ws[q0]? = some (a, .inr (2, fs))) (hv : fs[0]? = some v) (hd : decode cc pc = .ok (.getfield 11, 3)) (kk : W p l e R s m args below meth c H locs cells slots Q (F0 m (pc + 3) ls (v :: rest))) : W p l e R s m args below meth c H locs cells slots Q (F0 m pc ls (.ref a :: rest)) :=
  va_get (D := G.1) (ci := 2) (C := RX1) (T := TX1) (N := 3) hx hb hT inT_X1 hown hK hP q0 he rfl 0 (by decide) (hT _ (mT 119 (by decide +kernel) rfl)) (fun _ h9 => h9) hv hd kk
theorem pf_X1_11 (hx : p.tables.exec = Jvm.exec) (hb : c.code = cc) (hT : ∀ w ∈ TB, w.before args s = true) (hown : s.vm.findClass RX1 = some m.cls) (hin : meth.name = "<init>") (hK : zK G s) (hP : zP G ws H) (hD : va_D A ws) (hS : va_S A H0 H locs) (q0 : Nat) {a : Nat} {fs : List Value} {v : Value} (he : ws[q0]? = some (a, .inr (2, fs))) (hl : 0 < fs.length) (hn : narrow (.array .int) v = v) (hf : fits (.array .int) v = true) (hw : ws.set q0 (a, .inr (2, fs.set 0 v)) = ws') (hd : decode cc pc = .ok (.putfield 11, 3)) (kk : ∀ (H : Heap) (locs : List Loc), zP G ws' H → va_D A ws' → va_S A H0 H locs → W p l e R s m args below meth c H locs cells slots Q (F0 m (pc + 3) ls rest)) : W p l e R s m args below meth c H locs cells slots Q (F0 m pc ls (v :: .ref a :: rest)) :=
  va_putF (D := G.1) (ci := 2) (ty := .array .int) (C := RX1) (T := TX1) (N := 3) hx hb hT inT_X1 tyX1 tyX1_ok nmX1 hown hK hP hD hS q0 he rfl 0 (by decide) (hT _ (mT 119 (by decide +kernel) rfl)) (fun _ h9 => h9) rfl hin rfl (by decide +kernel) hn hf hl hd (fun H1 l1 p1 d1 s1 => kk H1 l1 (by rw [← hw]; exact p1) (by rw [← hw]; exact d1) s1)
theorem gf_X1_15 (hx : p.tables.exec = Jvm.exec) (hb : c.code = cc) (hT : ∀ w ∈ TB, w.before args s = true) (hown : s.vm.findClass RX1 = some m.cls) (hK : zK G s) (hP : zP G ws H) (q0 : Nat) {a : Nat} {fs : List Value} {v : Value} (he : ws[q0]? = some (a, .inr (2, fs))) (hv : fs[1]? = some v) (hd : decode cc pc = .ok (.getfield 15, 3)) (kk : W p l e R s m args below meth c H locs cells slots Q (F0 m (pc + 3) ls (v :: rest))) : W p l e R s m args below meth c H locs cells slots Q (F0 m pc ls (.ref a :: rest)) :=
  va_get (D := G.1) (ci := 2) (C := RX1) (T := TX1) (N := 3) hx hb hT inT_X1 hown hK hP q0 he rfl 1 (by decide) (hT _ (mT 120 (by decide +kernel) rfl)) (fun _ h9 => h9) hv hd kk
theorem pf_X1_15 (hx : p.tables.exec = Jvm.exec) (hb : c.code = cc) (hT : ∀ w ∈ TB, w.before args s = true) (hown : s.vm.findClass RX1 = some m.cls) (hin : meth.name = "<init>") (hK : zK G s) (hP : zP G ws H) (hD : va_D A ws) (hS : va_S A H0 H locs) (q0 : Nat) {a : Nat} {fs : List Value} {v : Value} (he : ws[q0]? = some (a, .inr (2, fs))) (hl : 1 < fs.length) (hn : narrow (.array .int) v = v) (hf : fits (.array .int) v = true) (hw : ws.set q0 (a, .inr (2, fs.set 1 v)) = ws') (hd : decode cc pc = .ok (.putfield 15, 3)) (kk : ∀ (H : Heap) (locs : List Loc), zP G ws' H → va_D A ws' → va_S A H0 H locs → W p l e R s m args below meth c H locs cells slots Q (F0 m (pc + 3) ls rest)) : W p l e R s m args below meth c H locs cells slots Q (F0 m pc ls (v :: .ref a :: rest)) :=
  va_putF (D := G.1) (ci := 2) (ty := .array .int) (C := RX1) (T := TX1) (N := 3) hx hb hT inT_X1 tyX1 tyX1_ok nmX1 hown hK hP hD hS q0 he rfl 1 (by decide) (hT _ (mT 120 (by decide +kernel) rfl)) (fun _ h9 => h9) rfl hin rfl (by decide +kernel) hn hf hl hd (fun H1 l1 p1 d1 s1 => kk H1 l1 (by rw [← hw]; exact p1) (by rw [← hw]; exact d1) s1)
theorem gf_X1_18 (hx : p.tables.exec = Jvm.exec) (hb : c.code = cc) (hT : ∀ w ∈ TB, w.before args s = true) (hown : s.vm.findClass RX1 = some m.cls) (hK : zK G s) (hP : zP G ws H) (q0 : Nat) {a : Nat} {fs : List Value} {v : Value} (he : ws[q0]? = some (a, .inr (2, fs))) (hv : fs[2]? = some v) (hd : decode cc pc = .ok (.getfield 18, 3)) (kk : W p l e R s m args below meth c H locs cells slots Q (F0 m (pc + 3) ls (v :: rest))) : W p l e R s m args below meth c H locs cells slots Q (F0 m pc ls (.ref a :: rest)) :=
  va_get (D := G.1) (ci := 2) (C := RX1) (T := TX1) (N := 3) hx hb hT inT_X1 hown hK hP q0 he rfl 2 (by decide) (hT _ (mT 121 (by decide +kernel) rfl)) (fun _ h9 => h9) hv hd kk
theorem pf_X1_18 (hx : p.tables.exec = Jvm.exec) (hb : c.code = cc) (hT : ∀ w ∈ TB, w.before args s = true) (hown : s.vm.findClass RX1 = some m.cls) (hK : zK G s) (hP : zP G ws H) (hD : va_D A ws) (hS : va_S A H0 H locs) (q0 : Nat) {a : Nat} {fs : List Value} {v : Value} (he : ws[q0]? = some (a, .inr (2, fs))) (hl : 2 < fs.length) (hn : narrow (.int) v = v) (hf : fits (.int) v = true) (hw : ws.set q0 (a, .inr (2, fs.set 2 v)) = ws') (hd : decode cc pc = .ok (.putfield 18, 3)) (kk : ∀ (H : Heap) (locs : List Loc), zP G ws' H → va_D A ws' → va_S A H0 H locs → W p l e R s m args below meth c H locs cells slots Q (F0 m (pc + 3) ls rest)) : W p l e R s m args below meth c H locs cells slots Q (F0 m pc ls (v :: .ref a :: rest)) :=
  va_put (D := G.1) (ci := 2) (ty := .int) (C := RX1) (T := TX1) (N := 3) hx hb hT inT_X1 tyX1 tyX1_ok nmX1 hown hK hP hD hS q0 he rfl 2 (by decide) (hT _ (mT 121 (by decide +kernel) rfl)) (fun _ h9 => h9) rfl (by decide +kernel) hn hf hl hd (fun H1 l1 p1 d1 s1 => kk H1 l1 (by rw [← hw]; exact p1) (by rw [← hw]; exact d1) s1)
theorem gf_X4_23 (hx : p.tables.exec = Jvm.exec) (hb : c.code = cc) (hT : ∀ w ∈ TB, w.before args s = true) (hown : s.vm.findClass RX4 = some m.cls) (hK : zK G s) (hP : zP G ws H) (q0 : Nat) {a : Nat} {fs : List Value} {v : Value} (he : ws[q0]? = some (a, .inr (5, fs))) (hv : fs[0]? = some v) (hd : decode cc pc = .ok (.getfield 23, 3)) (kk : W p l e R s m args below meth c H locs cells slots Q (F0 m (pc + 3) ls (v :: rest))) : W p l e R s m args below meth c H locs cells slots Q (F0 m pc ls (.ref a :: rest)) :=
  va_get (D := G.1) (ci := 5) (C := RX4) (T := TX4) (N := 4) hx hb hT inT_X4 hown hK hP q0 he rfl 0 (by decide) (hT _ (mT 131 (by decide +kernel) rfl)) (fun _ h9 => h9) hv hd kk
theorem pf_X4_23 (hx : p.tables.exec = Jvm.exec) (hb : c.code = cc) (hT : ∀ w ∈ TB, w.before args s = true) (hown : s.vm.findClass RX4 = some m.cls) (hin : meth.name = "<init>") (hK : zK G s) (hP : zP G ws H) (hD : va_D A ws) (hS : va_S A H0 H locs) (q0 : Nat) {a : Nat} {fs : List Value} {v : Value} (he : ws[q0]? = some (a, .inr (5, fs))) (hl : 0 < fs.length) (hn : narrow (.object "SeparateScreens$Page") v = v) (hf : fits (.object "SeparateScreens$Page") v = true) (hw : ws.set q0 (a, .inr (5, fs.set 0 v)) = ws') (hd : decode cc pc = .ok (.putfield 23, 3)) (kk : ∀ (H : Heap) (locs : List Loc), zP G ws' H → va_D A ws' → va_S A H0 H locs → W p l e R s m args below meth c H locs cells slots Q (F0 m (pc + 3) ls rest)) : W p l e R s m args below meth c H locs cells slots Q (F0 m pc ls (v :: .ref a :: rest)) :=
  va_putF (D := G.1) (ci := 5) (ty := .object "SeparateScreens$Page") (C := RX4) (T := TX4) (N := 4) hx hb hT inT_X4 tyX4 tyX4_ok nmX4 hown hK hP hD hS q0 he rfl 0 (by decide) (hT _ (mT 131 (by decide +kernel) rfl)) (fun _ h9 => h9) rfl hin rfl (by decide +kernel) hn hf hl hd (fun H1 l1 p1 d1 s1 => kk H1 l1 (by rw [← hw]; exact p1) (by rw [← hw]; exact d1) s1)
theorem gf_X4_30 (hx : p.tables.exec = Jvm.exec) (hb : c.code = cc) (hT : ∀ w ∈ TB, w.before args s = true) (hown : s.vm.findClass RX4 = some m.cls) (hK : zK G s) (hP : zP G ws H) (q0 : Nat) {a : Nat} {fs : List Value} {v : Value} (he : ws[q0]? = some (a, .inr (5, fs))) (hv : fs[1]? = some v) (hd : decode cc pc = .ok (.getfield 30, 3)) (kk : W p l e R s m args below meth c H locs cells slots Q (F0 m (pc + 3) ls (v :: rest))) : W p l e R s m args below meth c H locs cells slots Q (F0 m pc ls (.ref a :: rest)) :=
  va_get (D := G.1) (ci := 5) (C := RX4) (T := TX4) (N := 4) hx hb hT inT_X4 hown hK hP q0 he rfl 1 (by decide) (hT _ (mT 132 (by decide +kernel) rfl)) (fun _ h9 => h9) hv hd kk
theorem pf_X4_30 (hx : p.tables.exec = Jvm.exec) (hb : c.code = cc) (hT : ∀ w ∈ TB, w.before args s = true) (hown : s.vm.findClass RX4 = some m.cls) (hin : meth.name = "<init>") (hK : zK G s) (hP : zP G ws H) (hD : va_D A ws) (hS : va_S A H0 H locs) (q0 : Nat) {a : Nat} {fs : List Value} {v : Value} (he : ws[q0]? = some (a, .inr (5, fs))) (hl : 1 < fs.length) (hn : narrow (.object "SeparateScreens$Curve") v = v) (hf : fits (.object "SeparateScreens$Curve") v = true) (hw : ws.set q0 (a, .inr (5, fs.set 1 v)) = ws') (hd : decode cc pc = .ok (.putfield 30, 3)) (kk : ∀ (H : Heap) (locs : List Loc), zP G ws' H → va_D A ws' → va_S A H0 H locs → W p l e R s m args below meth c H locs cells slots Q (F0 m (pc + 3) ls rest)) : W p l e R s m args below meth c H locs cells slots Q (F0 m pc ls (v :: .ref a :: rest)) :=
  va_putF (D := G.1) (ci := 5) (ty := .object "SeparateScreens$Curve") (C := RX4) (T := TX4) (N := 4) hx hb hT inT_X4 tyX4 tyX4_ok nmX4 hown hK hP hD hS q0 he rfl 1 (by decide) (hT _ (mT 132 (by decide +kernel) rfl)) (fun _ h9 => h9) rfl hin rfl (by decide +kernel) hn hf hl hd (fun H1 l1 p1 d1 s1 => kk H1 l1 (by rw [← hw]; exact p1) (by rw [← hw]; exact d1) s1)
theorem gf_X4_36 (hx : p.tables.exec = Jvm.exec) (hb : c.code = cc) (hT : ∀ w ∈ TB, w.before args s = true) (hown : s.vm.findClass RX4 = some m.cls) (hK : zK G s) (hP : zP G ws H) (q0 : Nat) {a : Nat} {fs : List Value} {v : Value} (he : ws[q0]? = some (a, .inr (5, fs))) (hv : fs[2]? = some v) (hd : decode cc pc = .ok (.getfield 36, 3)) (kk : W p l e R s m args below meth c H locs cells slots Q (F0 m (pc + 3) ls (v :: rest))) : W p l e R s m args below meth c H locs cells slots Q (F0 m pc ls (.ref a :: rest)) :=
  va_get (D := G.1) (ci := 5) (C := RX4) (T := TX4) (N := 4) hx hb hT inT_X4 hown hK hP q0 he rfl 2 (by decide) (hT _ (mT 133 (by decide +kernel) rfl)) (fun _ h9 => h9) hv hd kk
theorem pf_X4_36 (hx : p.tables.exec = Jvm.exec) (hb : c.code = cc) (hT : ∀ w ∈ TB, w.before args s = true) (hown : s.vm.findClass RX4 = some m.cls) (hin : meth.name = "<init>") (hK : zK G s) (hP : zP G ws H) (hD : va_D A ws) (hS : va_S A H0 H locs) (q0 : Nat) {a : Nat} {fs : List Value} {v : Value} (he : ws[q0]? = some (a, .inr (5, fs))) (hl : 2 < fs.length) (hn : narrow (.array (.object "SeparateScreens$Cell")) v = v) (hf : fits (.array (.object "SeparateScreens$Cell")) v = true) (hw : ws.set q0 (a, .inr (5, fs.set 2 v)) = ws') (hd : decode cc pc = .ok (.putfield 36, 3)) (kk : ∀ (H : Heap) (locs : List Loc), zP G ws' H → va_D A ws' → va_S A H0 H locs → W p l e R s m args below meth c H locs cells slots Q (F0 m (pc + 3) ls rest)) : W p l e R s m args below meth c H locs cells slots Q (F0 m pc ls (v :: .ref a :: rest)) :=
  va_putF (D := G.1) (ci := 5) (ty := .array (.object "SeparateScreens$Cell")) (C := RX4) (T := TX4) (N := 4) hx hb hT inT_X4 tyX4 tyX4_ok nmX4 hown hK hP hD hS q0 he rfl 2 (by decide) (hT _ (mT 133 (by decide +kernel) rfl)) (fun _ h9 => h9) rfl hin rfl (by decide +kernel) hn hf hl hd (fun H1 l1 p1 d1 s1 => kk H1 l1 (by rw [← hw]; exact p1) (by rw [← hw]; exact d1) s1)
theorem gf_X4_40 (hx : p.tables.exec = Jvm.exec) (hb : c.code = cc) (hT : ∀ w ∈ TB, w.before args s = true) (hown : s.vm.findClass RX4 = some m.cls) (hK : zK G s) (hP : zP G ws H) (q0 : Nat) {a : Nat} {fs : List Value} {v : Value} (he : ws[q0]? = some (a, .inr (5, fs))) (hv : fs[3]? = some v) (hd : decode cc pc = .ok (.getfield 40, 3)) (kk : W p l e R s m args below meth c H locs cells slots Q (F0 m (pc + 3) ls (v :: rest))) : W p l e R s m args below meth c H locs cells slots Q (F0 m pc ls (.ref a :: rest)) :=
  va_get (D := G.1) (ci := 5) (C := RX4) (T := TX4) (N := 4) hx hb hT inT_X4 hown hK hP q0 he rfl 3 (by decide) (hT _ (mT 134 (by decide +kernel) rfl)) (fun _ h9 => h9) hv hd kk
theorem pf_X4_40 (hx : p.tables.exec = Jvm.exec) (hb : c.code = cc) (hT : ∀ w ∈ TB, w.before args s = true) (hown : s.vm.findClass RX4 = some m.cls) (hK : zK G s) (hP : zP G ws H) (hD : va_D A ws) (hS : va_S A H0 H locs) (q0 : Nat) {a : Nat} {fs : List Value} {v : Value} (he : ws[q0]? = some (a, .inr (5, fs))) (hl : 3 < fs.length) (hn : narrow (.int) v = v) (hf : fits (.int) v = true) (hw : ws.set q0 (a, .inr (5, fs.set 3 v)) = ws') (hd : decode cc pc = .ok (.putfield 40, 3)) (kk : ∀ (H : Heap) (locs : List Loc), zP G ws' H → va_D A ws' → va_S A H0 H locs → W p l e R s m args below meth c H locs cells slots Q (F0 m (pc + 3) ls rest)) : W p l e R s m args below meth c H locs cells slots Q (F0 m pc ls (v :: .ref a :: rest)) :=
  va_put (D := G.1) (ci := 5) (ty := .int) (C := RX4) (T := TX4) (N := 4) hx hb hT inT_X4 tyX4 tyX4_ok nmX4 hown hK hP hD hS q0 he rfl 3 (by decide) (hT _ (mT 134 (by decide +kernel) rfl)) (fun _ h9 => h9) rfl (by decide +kernel) hn hf hl hd (fun H1 l1 p1 d1 s1 => kk H1 l1 (by rw [← hw]; exact p1) (by rw [← hw]; exact d1) s1)
theorem gf_X0_15 (hx : p.tables.exec = Jvm.exec) (hb : c.code = cc) (hT : ∀ w ∈ TB, w.before args s = true) (hown : s.vm.findClass RX0 = some m.cls) (hK : zK G s) (hP : zP G ws H) (q0 : Nat) {a : Nat} {fs : List Value} {v : Value} (he : ws[q0]? = some (a, .inr (1, fs))) (hv : fs[0]? = some v) (hd : decode cc pc = .ok (.getfield 15, 3)) (kk : W p l e R s m args below meth c H locs cells slots Q (F0 m (pc + 3) ls (v :: rest))) : W p l e R s m args below meth c H locs cells slots Q (F0 m pc ls (.ref a :: rest)) :=
  va_get (D := G.1) (ci := 1) (C := RX0) (T := TX0) (N := 4) hx hb hT inT_X0 hown hK hP q0 he rfl 0 (by decide) (hT _ (mT 464 (by decide +kernel) rfl)) (fun _ h9 => h9) hv hd kk
theorem pf_X0_15 (hx : p.tables.exec = Jvm.exec) (hb : c.code = cc) (hT : ∀ w ∈ TB, w.before args s = true) (hown : s.vm.findClass RX0 = some m.cls) (hin : meth.name = "<init>") (hK : zK G s) (hP : zP G ws H) (hD : va_D A ws) (hS : va_S A H0 H locs) (q0 : Nat) {a : Nat} {fs : List Value} {v : Value} (he : ws[q0]? = some (a, .inr (1, fs))) (hl : 0 < fs.length) (hn : narrow (.int) v = v) (hf : fits (.int) v = true) (hw : ws.set q0 (a, .inr (1, fs.set 0 v)) = ws') (hd : decode cc pc = .ok (.putfield 15, 3)) (kk : ∀ (H : Heap) (locs : List Loc), zP G ws' H → va_D A ws' → va_S A H0 H locs → W p l e R s m args below meth c H locs cells slots Q (F0 m (pc + 3) ls rest)) : W p l e R s m args below meth c H locs cells slots Q (F0 m pc ls (v :: .ref a :: rest)) :=
  va_putF (D := G.1) (ci := 1) (ty := .int) (C := RX0) (T := TX0) (N := 4) hx hb hT inT_X0 tyX0 tyX0_ok nmX0 hown hK hP hD hS q0 he rfl 0 (by decide) (hT _ (mT 464 (by decide +kernel) rfl)) (fun _ h9 => h9) rfl hin rfl (by decide +kernel) hn hf hl hd (fun H1 l1 p1 d1 s1 => kk H1 l1 (by rw [← hw]; exact p1) (by rw [← hw]; exact d1) s1)
theorem gf_X0_24 (hx : p.tables.exec = Jvm.exec) (hb : c.code = cc) (hT : ∀ w ∈ TB, w.before args s = true) (hown : s.vm.findClass RX0 = some m.cls) (hK : zK G s) (hP : zP G ws H) (q0 : Nat) {a : Nat} {fs : List Value} {v : Value} (he : ws[q0]? = some (a, .inr (1, fs))) (hv : fs[1]? = some v) (hd : decode cc pc = .ok (.getfield 24, 3)) (kk : W p l e R s m args below meth c H locs cells slots Q (F0 m (pc + 3) ls (v :: rest))) : W p l e R s m args below meth c H locs cells slots Q (F0 m pc ls (.ref a :: rest)) :=
  va_get (D := G.1) (ci := 1) (C := RX0) (T := TX0) (N := 4) hx hb hT inT_X0 hown hK hP q0 he rfl 1 (by decide) (hT _ (mT 465 (by decide +kernel) rfl)) (fun _ h9 => h9) hv hd kk
theorem pf_X0_24 (hx : p.tables.exec = Jvm.exec) (hb : c.code = cc) (hT : ∀ w ∈ TB, w.before args s = true) (hown : s.vm.findClass RX0 = some m.cls) (hin : meth.name = "<init>") (hK : zK G s) (hP : zP G ws H) (hD : va_D A ws) (hS : va_S A H0 H locs) (q0 : Nat) {a : Nat} {fs : List Value} {v : Value} (he : ws[q0]? = some (a, .inr (1, fs))) (hl : 1 < fs.length) (hn : narrow (.int) v = v) (hf : fits (.int) v = true) (hw : ws.set q0 (a, .inr (1, fs.set 1 v)) = ws') (hd : decode cc pc = .ok (.putfield 24, 3)) (kk : ∀ (H : Heap) (locs : List Loc), zP G ws' H → va_D A ws' → va_S A H0 H locs → W p l e R s m args below meth c H locs cells slots Q (F0 m (pc + 3) ls rest)) : W p l e R s m args below meth c H locs cells slots Q (F0 m pc ls (v :: .ref a :: rest)) :=
  va_putF (D := G.1) (ci := 1) (ty := .int) (C := RX0) (T := TX0) (N := 4) hx hb hT inT_X0 tyX0 tyX0_ok nmX0 hown hK hP hD hS q0 he rfl 1 (by decide) (hT _ (mT 465 (by decide +kernel) rfl)) (fun _ h9 => h9) rfl hin rfl (by decide +kernel) hn hf hl hd (fun H1 l1 p1 d1 s1 => kk H1 l1 (by rw [← hw]; exact p1) (by rw [← hw]; exact d1) s1)
theorem gf_X0_34 (hx : p.tables.exec = Jvm.exec) (hb : c.code = cc) (hT : ∀ w ∈ TB, w.before args s = true) (hown : s.vm.findClass RX0 = some m.cls) (hK : zK G s) (hP : zP G ws H) (q0 : Nat) {a : Nat} {fs : List Value} {v : Value} (he : ws[q0]? = some (a, .inr (1, fs))) (hv : fs[2]? = some v) (hd : decode cc pc = .ok (.getfield 34, 3)) (kk : W p l e R s m args below meth c H locs cells slots Q (F0 m (pc + 3) ls (v :: rest))) : W p l e R s m args below meth c H locs cells slots Q (F0 m pc ls (.ref a :: rest)) :=
  va_get (D := G.1) (ci := 1) (C := RX0) (T := TX0) (N := 4) hx hb hT inT_X0 hown hK hP q0 he rfl 2 (by decide) (hT _ (mT 466 (by decide +kernel) rfl)) (fun _ h9 => h9) hv hd kk
theorem pf_X0_34 (hx : p.tables.exec = Jvm.exec) (hb : c.code = cc) (hT : ∀ w ∈ TB, w.before args s = true) (hown : s.vm.findClass RX0 = some m.cls) (hin : meth.name = "<init>") (hK : zK G s) (hP : zP G ws H) (hD : va_D A ws) (hS : va_S A H0 H locs) (q0 : Nat) {a : Nat} {fs : List Value} {v : Value} (he : ws[q0]? = some (a, .inr (1, fs))) (hl : 2 < fs.length) (hn : narrow (.int) v = v) (hf : fits (.int) v = true) (hw : ws.set q0 (a, .inr (1, fs.set 2 v)) = ws') (hd : decode cc pc = .ok (.putfield 34, 3)) (kk : ∀ (H : Heap) (locs : List Loc), zP G ws' H → va_D A ws' → va_S A H0 H locs → W p l e R s m args below meth c H locs cells slots Q (F0 m (pc + 3) ls rest)) : W p l e R s m args below meth c H locs cells slots Q (F0 m pc ls (v :: .ref a :: rest)) :=
  va_putF (D := G.1) (ci := 1) (ty := .int) (C := RX0) (T := TX0) (N := 4) hx hb hT inT_X0 tyX0 tyX0_ok nmX0 hown hK hP hD hS q0 he rfl 2 (by decide) (hT _ (mT 466 (by decide +kernel) rfl)) (fun _ h9 => h9) rfl hin rfl (by decide +kernel) hn hf hl hd (fun H1 l1 p1 d1 s1 => kk H1 l1 (by rw [← hw]; exact p1) (by rw [← hw]; exact d1) s1)
theorem gf_X0_37 (hx : p.tables.exec = Jvm.exec) (hb : c.code = cc) (hT : ∀ w ∈ TB, w.before args s = true) (hown : s.vm.findClass RX0 = some m.cls) (hK : zK G s) (hP : zP G ws H) (q0 : Nat) {a : Nat} {fs : List Value} {v : Value} (he : ws[q0]? = some (a, .inr (1, fs))) (hv : fs[3]? = some v) (hd : decode cc pc = .ok (.getfield 37, 3)) (kk : W p l e R s m args below meth c H locs cells slots Q (F0 m (pc + 3) ls (v :: rest))) : W p l e R s m args below meth c H locs cells slots Q (F0 m pc ls (.ref a :: rest)) :=
  va_get (D := G.1) (ci := 1) (C := RX0) (T := TX0) (N := 4) hx hb hT inT_X0 hown hK hP q0 he rfl 3 (by decide) (hT _ (mT 467 (by decide +kernel) rfl)) (fun _ h9 => h9) hv hd kk
theorem pf_X0_37 (hx : p.tables.exec = Jvm.exec) (hb : c.code = cc) (hT : ∀ w ∈ TB, w.before args s = true) (hown : s.vm.findClass RX0 = some m.cls) (hin : meth.name = "<init>") (hK : zK G s) (hP : zP G ws H) (hD : va_D A ws) (hS : va_S A H0 H locs) (q0 : Nat) {a : Nat} {fs : List Value} {v : Value} (he : ws[q0]? = some (a, .inr (1, fs))) (hl : 3 < fs.length) (hn : narrow (.array .int) v = v) (hf : fits (.array .int) v = true) (hw : ws.set q0 (a, .inr (1, fs.set 3 v)) = ws') (hd : decode cc pc = .ok (.putfield 37, 3)) (kk : ∀ (H : Heap) (locs : List Loc), zP G ws' H → va_D A ws' → va_S A H0 H locs → W p l e R s m args below meth c H locs cells slots Q (F0 m (pc + 3) ls rest)) : W p l e R s m args below meth c H locs cells slots Q (F0 m pc ls (v :: .ref a :: rest)) :=
  va_putF (D := G.1) (ci := 1) (ty := .array .int) (C := RX0) (T := TX0) (N := 4) hx hb hT inT_X0 tyX0 tyX0_ok nmX0 hown hK hP hD hS q0 he rfl 3 (by decide) (hT _ (mT 467 (by decide +kernel) rfl)) (fun _ h9 => h9) rfl hin rfl (by decide +kernel) hn hf hl hd (fun H1 l1 p1 d1 s1 => kk H1 l1 (by rw [← hw]; exact p1) (by rw [← hw]; exact d1) s1)
theorem gf_X4_151 (hx : p.tables.exec = Jvm.exec) (hb : c.code = cc) (hT : ∀ w ∈ TB, w.before args s = true) (hown : s.vm.findClass RX4 = some m.cls) (hK : zK G s) (hP : zP G ws H) (q0 : Nat) {a : Nat} {fs : List Value} {v : Value} (he : ws[q0]? = some (a, .inr (1, fs))) (hv : fs[3]? = some v) (hd : decode cc pc = .ok (.getfield 151, 3)) (kk : W p l e R s m args below meth c H locs cells slots Q (F0 m (pc + 3) ls (v :: rest))) : W p l e R s m args below meth c H locs cells slots Q (F0 m pc ls (.ref a :: rest)) :=
  va_get (D := G.1) (ci := 1) (C := RX0) (T := TX0) (N := 4) hx hb hT inT_X0 hown hK hP q0 he rfl 3 (by decide) (hT _ (mT 468 (by decide +kernel) rfl)) (fun _ h9 => h9) hv hd kk
theorem gf_X5_62 (hx : p.tables.exec = Jvm.exec) (hb : c.code = cc) (hT : ∀ w ∈ TB, w.before args s = true) (hown : s.vm.findClass RX5 = some m.cls) (hK : zK G s) (hP : zP G ws H) (q0 : Nat) {a : Nat} {fs : List Value} {v : Value} (he : ws[q0]? = some (a, .inr (6, fs))) (hv : fs[0]? = some v) (hd : decode cc pc = .ok (.getfield 62, 3)) (kk : W p l e R s m args below meth c H locs cells slots Q (F0 m (pc + 3) ls (v :: rest))) : W p l e R s m args below meth c H locs cells slots Q (F0 m pc ls (.ref a :: rest)) :=
  va_get (D := G.1) (ci := 6) (C := RX5) (T := TX5) (N := 19) hx hb hT inT_X5 hown hK hP q0 he rfl 0 (by decide) (hT _ (mT 554 (by decide +kernel) rfl)) (fun _ h9 => h9) hv hd kk
theorem pf_X5_62 (hx : p.tables.exec = Jvm.exec) (hb : c.code = cc) (hT : ∀ w ∈ TB, w.before args s = true) (hown : s.vm.findClass RX5 = some m.cls) (hK : zK G s) (hP : zP G ws H) (hD : va_D A ws) (hS : va_S A H0 H locs) (q0 : Nat) {a : Nat} {fs : List Value} {v : Value} (he : ws[q0]? = some (a, .inr (6, fs))) (hl : 0 < fs.length) (hn : narrow (.int) v = v) (hf : fits (.int) v = true) (hw : ws.set q0 (a, .inr (6, fs.set 0 v)) = ws') (hd : decode cc pc = .ok (.putfield 62, 3)) (kk : ∀ (H : Heap) (locs : List Loc), zP G ws' H → va_D A ws' → va_S A H0 H locs → W p l e R s m args below meth c H locs cells slots Q (F0 m (pc + 3) ls rest)) : W p l e R s m args below meth c H locs cells slots Q (F0 m pc ls (v :: .ref a :: rest)) :=
  va_put (D := G.1) (ci := 6) (ty := .int) (C := RX5) (T := TX5) (N := 19) hx hb hT inT_X5 tyX5 tyX5_ok nmX5 hown hK hP hD hS q0 he rfl 0 (by decide) (hT _ (mT 554 (by decide +kernel) rfl)) (fun _ h9 => h9) rfl (by decide +kernel) hn hf hl hd (fun H1 l1 p1 d1 s1 => kk H1 l1 (by rw [← hw]; exact p1) (by rw [← hw]; exact d1) s1)
theorem gf_X5_56 (hx : p.tables.exec = Jvm.exec) (hb : c.code = cc) (hT : ∀ w ∈ TB, w.before args s = true) (hown : s.vm.findClass RX5 = some m.cls) (hK : zK G s) (hP : zP G ws H) (q0 : Nat) {a : Nat} {fs : List Value} {v : Value} (he : ws[q0]? = some (a, .inr (6, fs))) (hv : fs[1]? = some v) (hd : decode cc pc = .ok (.getfield 56, 3)) (kk : W p l e R s m args below meth c H locs cells slots Q (F0 m (pc + 3) ls (v :: rest))) : W p l e R s m args below meth c H locs cells slots Q (F0 m pc ls (.ref a :: rest)) :=
  va_get (D := G.1) (ci := 6) (C := RX5) (T := TX5) (N := 19) hx hb hT inT_X5 hown hK hP q0 he rfl 1 (by decide) (hT _ (mT 555 (by decide +kernel) rfl)) (fun _ h9 => h9) hv hd kk
theorem pf_X5_56 (hx : p.tables.exec = Jvm.exec) (hb : c.code = cc) (hT : ∀ w ∈ TB, w.before args s = true) (hown : s.vm.findClass RX5 = some m.cls) (hin : meth.name = "<init>") (hK : zK G s) (hP : zP G ws H) (hD : va_D A ws) (hS : va_S A H0 H locs) (q0 : Nat) {a : Nat} {fs : List Value} {v : Value} (he : ws[q0]? = some (a, .inr (6, fs))) (hl : 1 < fs.length) (hn : narrow (.int) v = v) (hf : fits (.int) v = true) (hw : ws.set q0 (a, .inr (6, fs.set 1 v)) = ws') (hd : decode cc pc = .ok (.putfield 56, 3)) (kk : ∀ (H : Heap) (locs : List Loc), zP G ws' H → va_D A ws' → va_S A H0 H locs → W p l e R s m args below meth c H locs cells slots Q (F0 m (pc + 3) ls rest)) : W p l e R s m args below meth c H locs cells slots Q (F0 m pc ls (v :: .ref a :: rest)) :=
  va_putF (D := G.1) (ci := 6) (ty := .int) (C := RX5) (T := TX5) (N := 19) hx hb hT inT_X5 tyX5 tyX5_ok nmX5 hown hK hP hD hS q0 he rfl 1 (by decide) (hT _ (mT 555 (by decide +kernel) rfl)) (fun _ h9 => h9) rfl hin rfl (by decide +kernel) hn hf hl hd (fun H1 l1 p1 d1 s1 => kk H1 l1 (by rw [← hw]; exact p1) (by rw [← hw]; exact d1) s1)
theorem gf_X5_59 (hx : p.tables.exec = Jvm.exec) (hb : c.code = cc) (hT : ∀ w ∈ TB, w.before args s = true) (hown : s.vm.findClass RX5 = some m.cls) (hK : zK G s) (hP : zP G ws H) (q0 : Nat) {a : Nat} {fs : List Value} {v : Value} (he : ws[q0]? = some (a, .inr (6, fs))) (hv : fs[2]? = some v) (hd : decode cc pc = .ok (.getfield 59, 3)) (kk : W p l e R s m args below meth c H locs cells slots Q (F0 m (pc + 3) ls (v :: rest))) : W p l e R s m args below meth c H locs cells slots Q (F0 m pc ls (.ref a :: rest)) :=
  va_get (D := G.1) (ci := 6) (C := RX5) (T := TX5) (N := 19) hx hb hT inT_X5 hown hK hP q0 he rfl 2 (by decide) (hT _ (mT 556 (by decide +kernel) rfl)) (fun _ h9 => h9) hv hd kk
theorem pf_X5_59 (hx : p.tables.exec = Jvm.exec) (hb : c.code = cc) (hT : ∀ w ∈ TB, w.before args s = true) (hown : s.vm.findClass RX5 = some m.cls) (hin : meth.name = "<init>") (hK : zK G s) (hP : zP G ws H) (hD : va_D A ws) (hS : va_S A H0 H locs) (q0 : Nat) {a : Nat} {fs : List Value} {v : Value} (he : ws[q0]? = some (a, .inr (6, fs))) (hl : 2 < fs.length) (hn : narrow (.int) v = v) (hf : fits (.int) v = true) (hw : ws.set q0 (a, .inr (6, fs.set 2 v)) = ws') (hd : decode cc pc = .ok (.putfield 59, 3)) (kk : ∀ (H : Heap) (locs : List Loc), zP G ws' H → va_D A ws' → va_S A H0 H locs → W p l e R s m args below meth c H locs cells slots Q (F0 m (pc + 3) ls rest)) : W p l e R s m args below meth c H locs cells slots Q (F0 m pc ls (v :: .ref a :: rest)) :=
  va_putF (D := G.1) (ci := 6) (ty := .int) (C := RX5) (T := TX5) (N := 19) hx hb hT inT_X5 tyX5 tyX5_ok nmX5 hown hK hP hD hS q0 he rfl 2 (by decide) (hT _ (mT 556 (by decide +kernel) rfl)) (fun _ h9 => h9) rfl hin rfl (by decide +kernel) hn hf hl hd (fun H1 l1 p1 d1 s1 => kk H1 l1 (by rw [← hw]; exact p1) (by rw [← hw]; exact d1) s1)
theorem gf_X5_7 (hx : p.tables.exec = Jvm.exec) (hb : c.code = cc) (hT : ∀ w ∈ TB, w.before args s = true) (hown : s.vm.findClass RX5 = some m.cls) (hK : zK G s) (hP : zP G ws H) (q0 : Nat) {a : Nat} {fs : List Value} {v : Value} (he : ws[q0]? = some (a, .inr (6, fs))) (hv : fs[3]? = some v) (hd : decode cc pc = .ok (.getfield 7, 3)) (kk : W p l e R s m args below meth c H locs cells slots Q (F0 m (pc + 3) ls (v :: rest))) : W p l e R s m args below meth c H locs cells slots Q (F0 m pc ls (.ref a :: rest)) :=
  va_get (D := G.1) (ci := 6) (C := RX5) (T := TX5) (N := 19) hx hb hT inT_X5 hown hK hP q0 he rfl 3 (by decide) (hT _ (mT 557 (by decide +kernel) rfl)) (fun _ h9 => h9) hv hd kk
theorem pf_X5_7 (hx : p.tables.exec = Jvm.exec) (hb : c.code = cc) (hT : ∀ w ∈ TB, w.before args s = true) (hown : s.vm.findClass RX5 = some m.cls) (hK : zK G s) (hP : zP G ws H) (hD : va_D A ws) (hS : va_S A H0 H locs) (q0 : Nat) {a : Nat} {fs : List Value} {v : Value} (he : ws[q0]? = some (a, .inr (6, fs))) (hl : 3 < fs.length) (hn : narrow (.int) v = v) (hf : fits (.int) v = true) (hw : ws.set q0 (a, .inr (6, fs.set 3 v)) = ws') (hd : decode cc pc = .ok (.putfield 7, 3)) (kk : ∀ (H : Heap) (locs : List Loc), zP G ws' H → va_D A ws' → va_S A H0 H locs → W p l e R s m args below meth c H locs cells slots Q (F0 m (pc + 3) ls rest)) : W p l e R s m args below meth c H locs cells slots Q (F0 m pc ls (v :: .ref a :: rest)) :=
  va_put (D := G.1) (ci := 6) (ty := .int) (C := RX5) (T := TX5) (N := 19) hx hb hT inT_X5 tyX5 tyX5_ok nmX5 hown hK hP hD hS q0 he rfl 3 (by decide) (hT _ (mT 557 (by decide +kernel) rfl)) (fun _ h9 => h9) rfl (by decide +kernel) hn hf hl hd (fun H1 l1 p1 d1 s1 => kk H1 l1 (by rw [← hw]; exact p1) (by rw [← hw]; exact d1) s1)
theorem gf_X5_13 (hx : p.tables.exec = Jvm.exec) (hb : c.code = cc) (hT : ∀ w ∈ TB, w.before args s = true) (hown : s.vm.findClass RX5 = some m.cls) (hK : zK G s) (hP : zP G ws H) (q0 : Nat) {a : Nat} {fs : List Value} {v : Value} (he : ws[q0]? = some (a, .inr (6, fs))) (hv : fs[4]? = some v) (hd : decode cc pc = .ok (.getfield 13, 3)) (kk : W p l e R s m args below meth c H locs cells slots Q (F0 m (pc + 3) ls (v :: rest))) : W p l e R s m args below meth c H locs cells slots Q (F0 m pc ls (.ref a :: rest)) :=
  va_get (D := G.1) (ci := 6) (C := RX5) (T := TX5) (N := 19) hx hb hT inT_X5 hown hK hP q0 he rfl 4 (by decide) (hT _ (mT 558 (by decide +kernel) rfl)) (fun _ h9 => h9) hv hd kk
theorem pf_X5_13 (hx : p.tables.exec = Jvm.exec) (hb : c.code = cc) (hT : ∀ w ∈ TB, w.before args s = true) (hown : s.vm.findClass RX5 = some m.cls) (hin : meth.name = "<init>") (hK : zK G s) (hP : zP G ws H) (hD : va_D A ws) (hS : va_S A H0 H locs) (q0 : Nat) {a : Nat} {fs : List Value} {v : Value} (he : ws[q0]? = some (a, .inr (6, fs))) (hl : 4 < fs.length) (hn : narrow (.array .int) v = v) (hf : fits (.array .int) v = true) (hw : ws.set q0 (a, .inr (6, fs.set 4 v)) = ws') (hd : decode cc pc = .ok (.putfield 13, 3)) (kk : ∀ (H : Heap) (locs : List Loc), zP G ws' H → va_D A ws' → va_S A H0 H locs → W p l e R s m args below meth c H locs cells slots Q (F0 m (pc + 3) ls rest)) : W p l e R s m args below meth c H locs cells slots Q (F0 m pc ls (v :: .ref a :: rest)) :=
  va_putF (D := G.1) (ci := 6) (ty := .array .int) (C := RX5) (T := TX5) (N := 19) hx hb hT inT_X5 tyX5 tyX5_ok nmX5 hown hK hP hD hS q0 he rfl 4 (by decide) (hT _ (mT 558 (by decide +kernel) rfl)) (fun _ h9 => h9) rfl hin rfl (by decide +kernel) hn hf hl hd (fun H1 l1 p1 d1 s1 => kk H1 l1 (by rw [← hw]; exact p1) (by rw [← hw]; exact d1) s1)
theorem gf_X5_17 (hx : p.tables.exec = Jvm.exec) (hb : c.code = cc) (hT : ∀ w ∈ TB, w.before args s = true) (hown : s.vm.findClass RX5 = some m.cls) (hK : zK G s) (hP : zP G ws H) (q0 : Nat) {a : Nat} {fs : List Value} {v : Value} (he : ws[q0]? = some (a, .inr (6, fs))) (hv : fs[5]? = some v) (hd : decode cc pc = .ok (.getfield 17, 3)) (kk : W p l e R s m args below meth c H locs cells slots Q (F0 m (pc + 3) ls (v :: rest))) : W p l e R s m args below meth c H locs cells slots Q (F0 m pc ls (.ref a :: rest)) :=
  va_get (D := G.1) (ci := 6) (C := RX5) (T := TX5) (N := 19) hx hb hT inT_X5 hown hK hP q0 he rfl 5 (by decide) (hT _ (mT 559 (by decide +kernel) rfl)) (fun _ h9 => h9) hv hd kk
theorem pf_X5_17 (hx : p.tables.exec = Jvm.exec) (hb : c.code = cc) (hT : ∀ w ∈ TB, w.before args s = true) (hown : s.vm.findClass RX5 = some m.cls) (hin : meth.name = "<init>") (hK : zK G s) (hP : zP G ws H) (hD : va_D A ws) (hS : va_S A H0 H locs) (q0 : Nat) {a : Nat} {fs : List Value} {v : Value} (he : ws[q0]? = some (a, .inr (6, fs))) (hl : 5 < fs.length) (hn : narrow (.array .int) v = v) (hf : fits (.array .int) v = true) (hw : ws.set q0 (a, .inr (6, fs.set 5 v)) = ws') (hd : decode cc pc = .ok (.putfield 17, 3)) (kk : ∀ (H : Heap) (locs : List Loc), zP G ws' H → va_D A ws' → va_S A H0 H locs → W p l e R s m args below meth c H locs cells slots Q (F0 m (pc + 3) ls rest)) : W p l e R s m args below meth c H locs cells slots Q (F0 m pc ls (v :: .ref a :: rest)) :=
  va_putF (D := G.1) (ci := 6) (ty := .array .int) (C := RX5) (T := TX5) (N := 19) hx hb hT inT_X5 tyX5 tyX5_ok nmX5 hown hK hP hD hS q0 he rfl 5 (by decide) (hT _ (mT 559 (by decide +kernel) rfl)) (fun _ h9 => h9) rfl hin rfl (by decide +kernel) hn hf hl hd (fun H1 l1 p1 d1 s1 => kk H1 l1 (by rw [← hw]; exact p1) (by rw [← hw]; exact d1) s1)
theorem gf_X5_20 (hx : p.tables.exec = Jvm.exec) (hb : c.code = cc) (hT : ∀ w ∈ TB, w.before args s = true) (hown : s.vm.findClass RX5 = some m.cls) (hK : zK G s) (hP : zP G ws H) (q0 : Nat) {a : Nat} {fs : List Value} {v : Value} (he : ws[q0]? = some (a, .inr (6, fs))) (hv : fs[6]? = some v) (hd : decode cc pc = .ok (.getfield 20, 3)) (kk : W p l e R s m args below meth c H locs cells slots Q (F0 m (pc + 3) ls (v :: rest))) : W p l e R s m args below meth c H locs cells slots Q (F0 m pc ls (.ref a :: rest)) :=
  va_get (D := G.1) (ci := 6) (C := RX5) (T := TX5) (N := 19) hx hb hT inT_X5 hown hK hP q0 he rfl 6 (by decide) (hT _ (mT 560 (by decide +kernel) rfl)) (fun _ h9 => h9) hv hd kk
theorem pf_X5_20 (hx : p.tables.exec = Jvm.exec) (hb : c.code = cc) (hT : ∀ w ∈ TB, w.before args s = true) (hown : s.vm.findClass RX5 = some m.cls) (hin : meth.name = "<init>") (hK : zK G s) (hP : zP G ws H) (hD : va_D A ws) (hS : va_S A H0 H locs) (q0 : Nat) {a : Nat} {fs : List Value} {v : Value} (he : ws[q0]? = some (a, .inr (6, fs))) (hl : 6 < fs.length) (hn : narrow (.array .int) v = v) (hf : fits (.array .int) v = true) (hw : ws.set q0 (a, .inr (6, fs.set 6 v)) = ws') (hd : decode cc pc = .ok (.putfield 20, 3)) (kk : ∀ (H : Heap) (locs : List Loc), zP G ws' H → va_D A ws' → va_S A H0 H locs → W p l e R s m args below meth c H locs cells slots Q (F0 m (pc + 3) ls rest)) : W p l e R s m args below meth c H locs cells slots Q (F0 m pc ls (v :: .ref a :: rest)) :=
  va_putF (D := G.1) (ci := 6) (ty := .array .int) (C := RX5) (T := TX5) (N := 19) hx hb hT inT_X5 tyX5 tyX5_ok nmX5 hown hK hP hD hS q0 he rfl 6 (by decide) (hT _ (mT 560 (by decide +kernel) rfl)) (fun _ h9 => h9) rfl hin rfl (by decide +kernel) hn hf hl hd (fun H1 l1 p1 d1 s1 => kk H1 l1 (by rw [← hw]; exact p1) (by rw [← hw]; exact d1) s1)
theorem gf_X5_23 (hx : p.tables.exec = Jvm.exec) (hb : c.code = cc) (hT : ∀ w ∈ TB, w.before args s = true) (hown : s.vm.findClass RX5 = some m.cls) (hK : zK G s) (hP : zP G ws H) (q0 : Nat) {a : Nat} {fs : List Value} {v : Value} (he : ws[q0]? = some (a, .inr (6, fs))) (hv : fs[7]? = some v) (hd : decode cc pc = .ok (.getfield 23, 3)) (kk : W p l e R s m args below meth c H locs cells slots Q (F0 m (pc + 3) ls (v :: rest))) : W p l e R s m args below meth c H locs cells slots Q (F0 m pc ls (.ref a :: rest)) :=
  va_get (D := G.1) (ci := 6) (C := RX5) (T := TX5) (N := 19) hx hb hT inT_X5 hown hK hP q0 he rfl 7 (by decide) (hT _ (mT 561 (by decide +kernel) rfl)) (fun _ h9 => h9) hv hd kk
theorem pf_X5_23 (hx : p.tables.exec = Jvm.exec) (hb : c.code = cc) (hT : ∀ w ∈ TB, w.before args s = true) (hown : s.vm.findClass RX5 = some m.cls) (hK : zK G s) (hP : zP G ws H) (hD : va_D A ws) (hS : va_S A H0 H locs) (q0 : Nat) {a : Nat} {fs : List Value} {v : Value} (he : ws[q0]? = some (a, .inr (6, fs))) (hl : 7 < fs.length) (hn : narrow (.int) v = v) (hf : fits (.int) v = true) (hw : ws.set q0 (a, .inr (6, fs.set 7 v)) = ws') (hd : decode cc pc = .ok (.putfield 23, 3)) (kk : ∀ (H : Heap) (locs : List Loc), zP G ws' H → va_D A ws' → va_S A H0 H locs → W p l e R s m args below meth c H locs cells slots Q (F0 m (pc + 3) ls rest)) : W p l e R s m args below meth c H locs cells slots Q (F0 m pc ls (v :: .ref a :: rest)) :=
  va_put (D := G.1) (ci := 6) (ty := .int) (C := RX5) (T := TX5) (N := 19) hx hb hT inT_X5 tyX5 tyX5_ok nmX5 hown hK hP hD hS q0 he rfl 7 (by decide) (hT _ (mT 561 (by decide +kernel) rfl)) (fun _ h9 => h9) rfl (by decide +kernel) hn hf hl hd (fun H1 l1 p1 d1 s1 => kk H1 l1 (by rw [← hw]; exact p1) (by rw [← hw]; exact d1) s1)
theorem gf_X5_26 (hx : p.tables.exec = Jvm.exec) (hb : c.code = cc) (hT : ∀ w ∈ TB, w.before args s = true) (hown : s.vm.findClass RX5 = some m.cls) (hK : zK G s) (hP : zP G ws H) (q0 : Nat) {a : Nat} {fs : List Value} {v : Value} (he : ws[q0]? = some (a, .inr (6, fs))) (hv : fs[8]? = some v) (hd : decode cc pc = .ok (.getfield 26, 3)) (kk : W p l e R s m args below meth c H locs cells slots Q (F0 m (pc + 3) ls (v :: rest))) : W p l e R s m args below meth c H locs cells slots Q (F0 m pc ls (.ref a :: rest)) :=
  va_get (D := G.1) (ci := 6) (C := RX5) (T := TX5) (N := 19) hx hb hT inT_X5 hown hK hP q0 he rfl 8 (by decide) (hT _ (mT 562 (by decide +kernel) rfl)) (fun _ h9 => h9) hv hd kk
theorem pf_X5_26 (hx : p.tables.exec = Jvm.exec) (hb : c.code = cc) (hT : ∀ w ∈ TB, w.before args s = true) (hown : s.vm.findClass RX5 = some m.cls) (hK : zK G s) (hP : zP G ws H) (hD : va_D A ws) (hS : va_S A H0 H locs) (q0 : Nat) {a : Nat} {fs : List Value} {v : Value} (he : ws[q0]? = some (a, .inr (6, fs))) (hl : 8 < fs.length) (hn : narrow (.int) v = v) (hf : fits (.int) v = true) (hw : ws.set q0 (a, .inr (6, fs.set 8 v)) = ws') (hd : decode cc pc = .ok (.putfield 26, 3)) (kk : ∀ (H : Heap) (locs : List Loc), zP G ws' H → va_D A ws' → va_S A H0 H locs → W p l e R s m args below meth c H locs cells slots Q (F0 m (pc + 3) ls rest)) : W p l e R s m args below meth c H locs cells slots Q (F0 m pc ls (v :: .ref a :: rest)) :=
  va_put (D := G.1) (ci := 6) (ty := .int) (C := RX5) (T := TX5) (N := 19) hx hb hT inT_X5 tyX5 tyX5_ok nmX5 hown hK hP hD hS q0 he rfl 8 (by decide) (hT _ (mT 562 (by decide +kernel) rfl)) (fun _ h9 => h9) rfl (by decide +kernel) hn hf hl hd (fun H1 l1 p1 d1 s1 => kk H1 l1 (by rw [← hw]; exact p1) (by rw [← hw]; exact d1) s1)
theorem gf_X5_29 (hx : p.tables.exec = Jvm.exec) (hb : c.code = cc) (hT : ∀ w ∈ TB, w.before args s = true) (hown : s.vm.findClass RX5 = some m.cls) (hK : zK G s) (hP : zP G ws H) (q0 : Nat) {a : Nat} {fs : List Value} {v : Value} (he : ws[q0]? = some (a, .inr (6, fs))) (hv : fs[9]? = some v) (hd : decode cc pc = .ok (.getfield 29, 3)) (kk : W p l e R s m args below meth c H locs cells slots Q (F0 m (pc + 3) ls (v :: rest))) : W p l e R s m args below meth c H locs cells slots Q (F0 m pc ls (.ref a :: rest)) :=
  va_get (D := G.1) (ci := 6) (C := RX5) (T := TX5) (N := 19) hx hb hT inT_X5 hown hK hP q0 he rfl 9 (by decide) (hT _ (mT 563 (by decide +kernel) rfl)) (fun _ h9 => h9) hv hd kk
theorem pf_X5_29 (hx : p.tables.exec = Jvm.exec) (hb : c.code = cc) (hT : ∀ w ∈ TB, w.before args s = true) (hown : s.vm.findClass RX5 = some m.cls) (hin : meth.name = "<init>") (hK : zK G s) (hP : zP G ws H) (hD : va_D A ws) (hS : va_S A H0 H locs) (q0 : Nat) {a : Nat} {fs : List Value} {v : Value} (he : ws[q0]? = some (a, .inr (6, fs))) (hl : 9 < fs.length) (hn : narrow (.array .int) v = v) (hf : fits (.array .int) v = true) (hw : ws.set q0 (a, .inr (6, fs.set 9 v)) = ws') (hd : decode cc pc = .ok (.putfield 29, 3)) (kk : ∀ (H : Heap) (locs : List Loc), zP G ws' H → va_D A ws' → va_S A H0 H locs → W p l e R s m args below meth c H locs cells slots Q (F0 m (pc + 3) ls rest)) : W p l e R s m args below meth c H locs cells slots Q (F0 m pc ls (v :: .ref a :: rest)) :=
  va_putF (D := G.1) (ci := 6) (ty := .array .int) (C := RX5) (T := TX5) (N := 19) hx hb hT inT_X5 tyX5 tyX5_ok nmX5 hown hK hP hD hS q0 he rfl 9 (by decide) (hT _ (mT 563 (by decide +kernel) rfl)) (fun _ h9 => h9) rfl hin rfl (by decide +kernel) hn hf hl hd (fun H1 l1 p1 d1 s1 => kk H1 l1 (by rw [← hw]; exact p1) (by rw [← hw]; exact d1) s1)
theorem gf_X5_32 (hx : p.tables.exec = Jvm.exec) (hb : c.code = cc) (hT : ∀ w ∈ TB, w.before args s = true) (hown : s.vm.findClass RX5 = some m.cls) (hK : zK G s) (hP : zP G ws H) (q0 : Nat) {a : Nat} {fs : List Value} {v : Value} (he : ws[q0]? = some (a, .inr (6, fs))) (hv : fs[10]? = some v) (hd : decode cc pc = .ok (.getfield 32, 3)) (kk : W p l e R s m args below meth c H locs cells slots Q (F0 m (pc + 3) ls (v :: rest))) : W p l e R s m args below meth c H locs cells slots Q (F0 m pc ls (.ref a :: rest)) :=
  va_get (D := G.1) (ci := 6) (C := RX5) (T := TX5) (N := 19) hx hb hT inT_X5 hown hK hP q0 he rfl 10 (by decide) (hT _ (mT 564 (by decide +kernel) rfl)) (fun _ h9 => h9) hv hd kk
theorem pf_X5_32 (hx : p.tables.exec = Jvm.exec) (hb : c.code = cc) (hT : ∀ w ∈ TB, w.before args s = true) (hown : s.vm.findClass RX5 = some m.cls) (hK : zK G s) (hP : zP G ws H) (hD : va_D A ws) (hS : va_S A H0 H locs) (q0 : Nat) {a : Nat} {fs : List Value} {v : Value} (he : ws[q0]? = some (a, .inr (6, fs))) (hl : 10 < fs.length) (hn : narrow (.int) v = v) (hf : fits (.int) v = true) (hw : ws.set q0 (a, .inr (6, fs.set 10 v)) = ws') (hd : decode cc pc = .ok (.putfield 32, 3)) (kk : ∀ (H : Heap) (locs : List Loc), zP G ws' H → va_D A ws' → va_S A H0 H locs → W p l e R s m args below meth c H locs cells slots Q (F0 m (pc + 3) ls rest)) : W p l e R s m args below meth c H locs cells slots Q (F0 m pc ls (v :: .ref a :: rest)) :=
  va_put (D := G.1) (ci := 6) (ty := .int) (C := RX5) (T := TX5) (N := 19) hx hb hT inT_X5 tyX5 tyX5_ok nmX5 hown hK hP hD hS q0 he rfl 10 (by decide) (hT _ (mT 564 (by decide +kernel) rfl)) (fun _ h9 => h9) rfl (by decide +kernel) hn hf hl hd (fun H1 l1 p1 d1 s1 => kk H1 l1 (by rw [← hw]; exact p1) (by rw [← hw]; exact d1) s1)
theorem gf_X5_119 (hx : p.tables.exec = Jvm.exec) (hb : c.code = cc) (hT : ∀ w ∈ TB, w.before args s = true) (hown : s.vm.findClass RX5 = some m.cls) (hK : zK G s) (hP : zP G ws H) (q0 : Nat) {a : Nat} {fs : List Value} {v : Value} (he : ws[q0]? = some (a, .inr (6, fs))) (hv : fs[11]? = some v) (hd : decode cc pc = .ok (.getfield 119, 3)) (kk : W p l e R s m args below meth c H locs cells slots Q (F0 m (pc + 3) ls (v :: rest))) : W p l e R s m args below meth c H locs cells slots Q (F0 m pc ls (.ref a :: rest)) :=
  va_get (D := G.1) (ci := 6) (C := RX5) (T := TX5) (N := 19) hx hb hT inT_X5 hown hK hP q0 he rfl 11 (by decide) (hT _ (mT 565 (by decide +kernel) rfl)) (fun _ h9 => h9) hv hd kk
theorem pf_X5_119 (hx : p.tables.exec = Jvm.exec) (hb : c.code = cc) (hT : ∀ w ∈ TB, w.before args s = true) (hown : s.vm.findClass RX5 = some m.cls) (hK : zK G s) (hP : zP G ws H) (hD : va_D A ws) (hS : va_S A H0 H locs) (q0 : Nat) {a : Nat} {fs : List Value} {v : Value} (he : ws[q0]? = some (a, .inr (6, fs))) (hl : 11 < fs.length) (hn : narrow (.int) v = v) (hf : fits (.int) v = true) (hw : ws.set q0 (a, .inr (6, fs.set 11 v)) = ws') (hd : decode cc pc = .ok (.putfield 119, 3)) (kk : ∀ (H : Heap) (locs : List Loc), zP G ws' H → va_D A ws' → va_S A H0 H locs → W p l e R s m args below meth c H locs cells slots Q (F0 m (pc + 3) ls rest)) : W p l e R s m args below meth c H locs cells slots Q (F0 m pc ls (v :: .ref a :: rest)) :=
  va_put (D := G.1) (ci := 6) (ty := .int) (C := RX5) (T := TX5) (N := 19) hx hb hT inT_X5 tyX5 tyX5_ok nmX5 hown hK hP hD hS q0 he rfl 11 (by decide) (hT _ (mT 565 (by decide +kernel) rfl)) (fun _ h9 => h9) rfl (by decide +kernel) hn hf hl hd (fun H1 l1 p1 d1 s1 => kk H1 l1 (by rw [← hw]; exact p1) (by rw [← hw]; exact d1) s1)
theorem gf_X5_35 (hx : p.tables.exec = Jvm.exec) (hb : c.code = cc) (hT : ∀ w ∈ TB, w.before args s = true) (hown : s.vm.findClass RX5 = some m.cls) (hK : zK G s) (hP : zP G ws H) (q0 : Nat) {a : Nat} {fs : List Value} {v : Value} (he : ws[q0]? = some (a, .inr (6, fs))) (hv : fs[12]? = some v) (hd : decode cc pc = .ok (.getfield 35, 3)) (kk : W p l e R s m args below meth c H locs cells slots Q (F0 m (pc + 3) ls (v :: rest))) : W p l e R s m args below meth c H locs cells slots Q (F0 m pc ls (.ref a :: rest)) :=
  va_get (D := G.1) (ci := 6) (C := RX5) (T := TX5) (N := 19) hx hb hT inT_X5 hown hK hP q0 he rfl 12 (by decide) (hT _ (mT 566 (by decide +kernel) rfl)) (fun _ h9 => h9) hv hd kk
theorem pf_X5_35 (hx : p.tables.exec = Jvm.exec) (hb : c.code = cc) (hT : ∀ w ∈ TB, w.before args s = true) (hown : s.vm.findClass RX5 = some m.cls) (hin : meth.name = "<init>") (hK : zK G s) (hP : zP G ws H) (hD : va_D A ws) (hS : va_S A H0 H locs) (q0 : Nat) {a : Nat} {fs : List Value} {v : Value} (he : ws[q0]? = some (a, .inr (6, fs))) (hl : 12 < fs.length) (hn : narrow (.array .int) v = v) (hf : fits (.array .int) v = true) (hw : ws.set q0 (a, .inr (6, fs.set 12 v)) = ws') (hd : decode cc pc = .ok (.putfield 35, 3)) (kk : ∀ (H : Heap) (locs : List Loc), zP G ws' H → va_D A ws' → va_S A H0 H locs → W p l e R s m args below meth c H locs cells slots Q (F0 m (pc + 3) ls rest)) : W p l e R s m args below meth c H locs cells slots Q (F0 m pc ls (v :: .ref a :: rest)) :=
  va_putF (D := G.1) (ci := 6) (ty := .array .int) (C := RX5) (T := TX5) (N := 19) hx hb hT inT_X5 tyX5 tyX5_ok nmX5 hown hK hP hD hS q0 he rfl 12 (by decide) (hT _ (mT 566 (by decide +kernel) rfl)) (fun _ h9 => h9) rfl hin rfl (by decide +kernel) hn hf hl hd (fun H1 l1 p1 d1 s1 => kk H1 l1 (by rw [← hw]; exact p1) (by rw [← hw]; exact d1) s1)
theorem gf_X5_38 (hx : p.tables.exec = Jvm.exec) (hb : c.code = cc) (hT : ∀ w ∈ TB, w.before args s = true) (hown : s.vm.findClass RX5 = some m.cls) (hK : zK G s) (hP : zP G ws H) (q0 : Nat) {a : Nat} {fs : List Value} {v : Value} (he : ws[q0]? = some (a, .inr (6, fs))) (hv : fs[13]? = some v) (hd : decode cc pc = .ok (.getfield 38, 3)) (kk : W p l e R s m args below meth c H locs cells slots Q (F0 m (pc + 3) ls (v :: rest))) : W p l e R s m args below meth c H locs cells slots Q (F0 m pc ls (.ref a :: rest)) :=
  va_get (D := G.1) (ci := 6) (C := RX5) (T := TX5) (N := 19) hx hb hT inT_X5 hown hK hP q0 he rfl 13 (by decide) (hT _ (mT 567 (by decide +kernel) rfl)) (fun _ h9 => h9) hv hd kk
theorem pf_X5_38 (hx : p.tables.exec = Jvm.exec) (hb : c.code = cc) (hT : ∀ w ∈ TB, w.before args s = true) (hown : s.vm.findClass RX5 = some m.cls) (hin : meth.name = "<init>") (hK : zK G s) (hP : zP G ws H) (hD : va_D A ws) (hS : va_S A H0 H locs) (q0 : Nat) {a : Nat} {fs : List Value} {v : Value} (he : ws[q0]? = some (a, .inr (6, fs))) (hl : 13 < fs.length) (hn : narrow (.array .int) v = v) (hf : fits (.array .int) v = true) (hw : ws.set q0 (a, .inr (6, fs.set 13 v)) = ws') (hd : decode cc pc = .ok (.putfield 38, 3)) (kk : ∀ (H : Heap) (locs : List Loc), zP G ws' H → va_D A ws' → va_S A H0 H locs → W p l e R s m args below meth c H locs cells slots Q (F0 m (pc + 3) ls rest)) : W p l e R s m args below meth c H locs cells slots Q (F0 m pc ls (v :: .ref a :: rest)) :=
  va_putF (D := G.1) (ci := 6) (ty := .array .int) (C := RX5) (T := TX5) (N := 19) hx hb hT inT_X5 tyX5 tyX5_ok nmX5 hown hK hP hD hS q0 he rfl 13 (by decide) (hT _ (mT 567 (by decide +kernel) rfl)) (fun _ h9 => h9) rfl hin rfl (by decide +kernel) hn hf hl hd (fun H1 l1 p1 d1 s1 => kk H1 l1 (by rw [← hw]; exact p1) (by rw [← hw]; exact d1) s1)
theorem gf_X5_41 (hx : p.tables.exec = Jvm.exec) (hb : c.code = cc) (hT : ∀ w ∈ TB, w.before args s = true) (hown : s.vm.findClass RX5 = some m.cls) (hK : zK G s) (hP : zP G ws H) (q0 : Nat) {a : Nat} {fs : List Value} {v : Value} (he : ws[q0]? = some (a, .inr (6, fs))) (hv : fs[14]? = some v) (hd : decode cc pc = .ok (.getfield 41, 3)) (kk : W p l e R s m args below meth c H locs cells slots Q (F0 m (pc + 3) ls (v :: rest))) : W p l e R s m args below meth c H locs cells slots Q (F0 m pc ls (.ref a :: rest)) :=
  va_get (D := G.1) (ci := 6) (C := RX5) (T := TX5) (N := 19) hx hb hT inT_X5 hown hK hP q0 he rfl 14 (by decide) (hT _ (mT 568 (by decide +kernel) rfl)) (fun _ h9 => h9) hv hd kk
theorem pf_X5_41 (hx : p.tables.exec = Jvm.exec) (hb : c.code = cc) (hT : ∀ w ∈ TB, w.before args s = true) (hown : s.vm.findClass RX5 = some m.cls) (hin : meth.name = "<init>") (hK : zK G s) (hP : zP G ws H) (hD : va_D A ws) (hS : va_S A H0 H locs) (q0 : Nat) {a : Nat} {fs : List Value} {v : Value} (he : ws[q0]? = some (a, .inr (6, fs))) (hl : 14 < fs.length) (hn : narrow (.array .int) v = v) (hf : fits (.array .int) v = true) (hw : ws.set q0 (a, .inr (6, fs.set 14 v)) = ws') (hd : decode cc pc = .ok (.putfield 41, 3)) (kk : ∀ (H : Heap) (locs : List Loc), zP G ws' H → va_D A ws' → va_S A H0 H locs → W p l e R s m args below meth c H locs cells slots Q (F0 m (pc + 3) ls rest)) : W p l e R s m args below meth c H locs cells slots Q (F0 m pc ls (v :: .ref a :: rest)) :=
  va_putF (D := G.1) (ci := 6) (ty := .array .int) (C := RX5) (T := TX5) (N := 19) hx hb hT inT_X5 tyX5 tyX5_ok nmX5 hown hK hP hD hS q0 he rfl 14 (by decide) (hT _ (mT 568 (by decide +kernel) rfl)) (fun _ h9 => h9) rfl hin rfl (by decide +kernel) hn hf hl hd (fun H1 l1 p1 d1 s1 => kk H1 l1 (by rw [← hw]; exact p1) (by rw [← hw]; exact d1) s1)
theorem gf_X5_44 (hx : p.tables.exec = Jvm.exec) (hb : c.code = cc) (hT : ∀ w ∈ TB, w.before args s = true) (hown : s.vm.findClass RX5 = some m.cls) (hK : zK G s) (hP : zP G ws H) (q0 : Nat) {a : Nat} {fs : List Value} {v : Value} (he : ws[q0]? = some (a, .inr (6, fs))) (hv : fs[15]? = some v) (hd : decode cc pc = .ok (.getfield 44, 3)) (kk : W p l e R s m args below meth c H locs cells slots Q (F0 m (pc + 3) ls (v :: rest))) : W p l e R s m args below meth c H locs cells slots Q (F0 m pc ls (.ref a :: rest)) :=
  va_get (D := G.1) (ci := 6) (C := RX5) (T := TX5) (N := 19) hx hb hT inT_X5 hown hK hP q0 he rfl 15 (by decide) (hT _ (mT 569 (by decide +kernel) rfl)) (fun _ h9 => h9) hv hd kk
theorem pf_X5_44 (hx : p.tables.exec = Jvm.exec) (hb : c.code = cc) (hT : ∀ w ∈ TB, w.before args s = true) (hown : s.vm.findClass RX5 = some m.cls) (hin : meth.name = "<init>") (hK : zK G s) (hP : zP G ws H) (hD : va_D A ws) (hS : va_S A H0 H locs) (q0 : Nat) {a : Nat} {fs : List Value} {v : Value} (he : ws[q0]? = some (a, .inr (6, fs))) (hl : 15 < fs.length) (hn : narrow (.array .int) v = v) (hf : fits (.array .int) v = true) (hw : ws.set q0 (a, .inr (6, fs.set 15 v)) = ws') (hd : decode cc pc = .ok (.putfield 44, 3)) (kk : ∀ (H : Heap) (locs : List Loc), zP G ws' H → va_D A ws' → va_S A H0 H locs → W p l e R s m args below meth c H locs cells slots Q (F0 m (pc + 3) ls rest)) : W p l e R s m args below meth c H locs cells slots Q (F0 m pc ls (v :: .ref a :: rest)) :=
  va_putF (D := G.1) (ci := 6) (ty := .array .int) (C := RX5) (T := TX5) (N := 19) hx hb hT inT_X5 tyX5 tyX5_ok nmX5 hown hK hP hD hS q0 he rfl 15 (by decide) (hT _ (mT 569 (by decide +kernel) rfl)) (fun _ h9 => h9) rfl hin rfl (by decide +kernel) hn hf hl hd (fun H1 l1 p1 d1 s1 => kk H1 l1 (by rw [← hw]; exact p1) (by rw [← hw]; exact d1) s1)
theorem gf_X5_47 (hx : p.tables.exec = Jvm.exec) (hb : c.code = cc) (hT : ∀ w ∈ TB, w.before args s = true) (hown : s.vm.findClass RX5 = some m.cls) (hK : zK G s) (hP : zP G ws H) (q0 : Nat) {a : Nat} {fs : List Value} {v : Value} (he : ws[q0]? = some (a, .inr (6, fs))) (hv : fs[16]? = some v) (hd : decode cc pc = .ok (.getfield 47, 3)) (kk : W p l e R s m args below meth c H locs cells slots Q (F0 m (pc + 3) ls (v :: rest))) : W p l e R s m args below meth c H locs cells slots Q (F0 m pc ls (.ref a :: rest)) :=
  va_get (D := G.1) (ci := 6) (C := RX5) (T := TX5) (N := 19) hx hb hT inT_X5 hown hK hP q0 he rfl 16 (by decide) (hT _ (mT 570 (by decide +kernel) rfl)) (fun _ h9 => h9) hv hd kk
theorem pf_X5_47 (hx : p.tables.exec = Jvm.exec) (hb : c.code = cc) (hT : ∀ w ∈ TB, w.before args s = true) (hown : s.vm.findClass RX5 = some m.cls) (hin : meth.name = "<init>") (hK : zK G s) (hP : zP G ws H) (hD : va_D A ws) (hS : va_S A H0 H locs) (q0 : Nat) {a : Nat} {fs : List Value} {v : Value} (he : ws[q0]? = some (a, .inr (6, fs))) (hl : 16 < fs.length) (hn : narrow (.array .int) v = v) (hf : fits (.array .int) v = true) (hw : ws.set q0 (a, .inr (6, fs.set 16 v)) = ws') (hd : decode cc pc = .ok (.putfield 47, 3)) (kk : ∀ (H : Heap) (locs : List Loc), zP G ws' H → va_D A ws' → va_S A H0 H locs → W p l e R s m args below meth c H locs cells slots Q (F0 m (pc + 3) ls rest)) : W p l e R s m args below meth c H locs cells slots Q (F0 m pc ls (v :: .ref a :: rest)) :=
  va_putF (D := G.1) (ci := 6) (ty := .array .int) (C := RX5) (T := TX5) (N := 19) hx hb hT inT_X5 tyX5 tyX5_ok nmX5 hown hK hP hD hS q0 he rfl 16 (by decide) (hT _ (mT 570 (by decide +kernel) rfl)) (fun _ h9 => h9) rfl hin rfl (by decide +kernel) hn hf hl hd (fun H1 l1 p1 d1 s1 => kk H1 l1 (by rw [← hw]; exact p1) (by rw [← hw]; exact d1) s1)
theorem gf_X5_50 (hx : p.tables.exec = Jvm.exec) (hb : c.code = cc) (hT : ∀ w ∈ TB, w.before args s = true) (hown : s.vm.findClass RX5 = some m.cls) (hK : zK G s) (hP : zP G ws H) (q0 : Nat) {a : Nat} {fs : List Value} {v : Value} (he : ws[q0]? = some (a, .inr (6, fs))) (hv : fs[17]? = some v) (hd : decode cc pc = .ok (.getfield 50, 3)) (kk : W p l e R s m args below meth c H locs cells slots Q (F0 m (pc + 3) ls (v :: rest))) : W p l e R s m args below meth c H locs cells slots Q (F0 m pc ls (.ref a :: rest)) :=
  va_get (D := G.1) (ci := 6) (C := RX5) (T := TX5) (N := 19) hx hb hT inT_X5 hown hK hP q0 he rfl 17 (by decide) (hT _ (mT 571 (by decide +kernel) rfl)) (fun _ h9 => h9) hv hd kk
theorem pf_X5_50 (hx : p.tables.exec = Jvm.exec) (hb : c.code = cc) (hT : ∀ w ∈ TB, w.before args s = true) (hown : s.vm.findClass RX5 = some m.cls) (hin : meth.name = "<init>") (hK : zK G s) (hP : zP G ws H) (hD : va_D A ws) (hS : va_S A H0 H locs) (q0 : Nat) {a : Nat} {fs : List Value} {v : Value} (he : ws[q0]? = some (a, .inr (6, fs))) (hl : 17 < fs.length) (hn : narrow (.array .int) v = v) (hf : fits (.array .int) v = true) (hw : ws.set q0 (a, .inr (6, fs.set 17 v)) = ws') (hd : decode cc pc = .ok (.putfield 50, 3)) (kk : ∀ (H : Heap) (locs : List Loc), zP G ws' H → va_D A ws' → va_S A H0 H locs → W p l e R s m args below meth c H locs cells slots Q (F0 m (pc + 3) ls rest)) : W p l e R s m args below meth c H locs cells slots Q (F0 m pc ls (v :: .ref a :: rest)) :=
  va_putF (D := G.1) (ci := 6) (ty := .array .int) (C := RX5) (T := TX5) (N := 19) hx hb hT inT_X5 tyX5 tyX5_ok nmX5 hown hK hP hD hS q0 he rfl 17 (by decide) (hT _ (mT 571 (by decide +kernel) rfl)) (fun _ h9 => h9) rfl hin rfl (by decide +kernel) hn hf hl hd (fun H1 l1 p1 d1 s1 => kk H1 l1 (by rw [← hw]; exact p1) (by rw [← hw]; exact d1) s1)
theorem gf_X5_53 (hx : p.tables.exec = Jvm.exec) (hb : c.code = cc) (hT : ∀ w ∈ TB, w.before args s = true) (hown : s.vm.findClass RX5 = some m.cls) (hK : zK G s) (hP : zP G ws H) (q0 : Nat) {a : Nat} {fs : List Value} {v : Value} (he : ws[q0]? = some (a, .inr (6, fs))) (hv : fs[18]? = some v) (hd : decode cc pc = .ok (.getfield 53, 3)) (kk : W p l e R s m args below meth c H locs cells slots Q (F0 m (pc + 3) ls (v :: rest))) : W p l e R s m args below meth c H locs cells slots Q (F0 m pc ls (.ref a :: rest)) :=
  va_get (D := G.1) (ci := 6) (C := RX5) (T := TX5) (N := 19) hx hb hT inT_X5 hown hK hP q0 he rfl 18 (by decide) (hT _ (mT 572 (by decide +kernel) rfl)) (fun _ h9 => h9) hv hd kk
theorem pf_X5_53 (hx : p.tables.exec = Jvm.exec) (hb : c.code = cc) (hT : ∀ w ∈ TB, w.before args s = true) (hown : s.vm.findClass RX5 = some m.cls) (hin : meth.name = "<init>") (hK : zK G s) (hP : zP G ws H) (hD : va_D A ws) (hS : va_S A H0 H locs) (q0 : Nat) {a : Nat} {fs : List Value} {v : Value} (he : ws[q0]? = some (a, .inr (6, fs))) (hl : 18 < fs.length) (hn : narrow (.array .int) v = v) (hf : fits (.array .int) v = true) (hw : ws.set q0 (a, .inr (6, fs.set 18 v)) = ws') (hd : decode cc pc = .ok (.putfield 53, 3)) (kk : ∀ (H : Heap) (locs : List Loc), zP G ws' H → va_D A ws' → va_S A H0 H locs → W p l e R s m args below meth c H locs cells slots Q (F0 m (pc + 3) ls rest)) : W p l e R s m args below meth c H locs cells slots Q (F0 m pc ls (v :: .ref a :: rest)) :=
  va_putF (D := G.1) (ci := 6) (ty := .array .int) (C := RX5) (T := TX5) (N := 19) hx hb hT inT_X5 tyX5 tyX5_ok nmX5 hown hK hP hD hS q0 he rfl 18 (by decide) (hT _ (mT 572 (by decide +kernel) rfl)) (fun _ h9 => h9) rfl hin rfl (by decide +kernel) hn hf hl hd (fun H1 l1 p1 d1 s1 => kk H1 l1 (by rw [← hw]; exact p1) (by rw [← hw]; exact d1) s1)
end ZF
end
section
/-! ===== Page and Inks: their cells, what holds of them, what they read ===== -/
abbrev pgL (G : zG) (pg ik mx co pa : Nat) (w h pts cnt most rch : Int) (M C P : Int → Int) : va_W := [(pg, .inr (4, [.int (zI w), .int (zI h), .int (zI pts), .ref ik, .ref pa, .int (zI most), .int (zI rch)])), (ik, .inr (3, [.ref mx, .ref co, .int (zI cnt)])), ia G pa (8 * pts).toNat P, ia G mx 32 M, ia G co 8 C]
def pgOK (w h pts cnt most rch : Int) (M C P : Int → Int) : Prop := (1 ≤ w ∧ w ≤ 16) ∧ (1 ≤ h ∧ h ≤ 12) ∧ pts = w * h ∧ (4 ≤ cnt ∧ cnt ≤ 8) ∧ (0 ≤ most ∧ most ≤ 2040) ∧ (0 ≤ rch ∧ rch ≤ 3) ∧ (∀ j, 0 ≤ M j ∧ M j ≤ 255) ∧ (∀ j, -1 ≤ C j ∧ C j ≤ 255) ∧ (∀ j, 0 ≤ P j ∧ P j ≤ 255)
theorem mul_b {a b A B : Int} (ha : 0 ≤ a ∧ a ≤ A) (hb : 0 ≤ b ∧ b ≤ B) : 0 ≤ a * b ∧ a * b ≤ A * B :=
  ⟨Int.mul_nonneg ha.1 hb.1, Int.mul_le_mul ha.2 hb.2 hb.1 (by omega)⟩
theorem pgOK_pts {w h pts cnt most rch : Int} {M C P : Int → Int} (hp : pgOK w h pts cnt most rch M C P) : 1 ≤ pts ∧ pts ≤ 192 := by
  obtain ⟨hw, hh, rfl, -⟩ := hp
  have h1 := mul_b (a := w - 1) (b := h) (A := 15) (B := 12) (by omega) (by omega)
  have h2 : (w - 1) * h = w * h - h := by rw [Int.sub_mul, Int.one_mul]
  omega
theorem pg_ix {pts k q : Int} (hpt : 1 ≤ pts ∧ pts ≤ 192) (hk : 0 ≤ k ∧ k < 8) (hq : 0 ≤ q ∧ q < pts) : 0 ≤ k * pts + q ∧ k * pts + q < 8 * pts := by
  have h1 := mul_b (a := k) (b := pts) (A := 7) (B := pts) (by omega) (by omega)
  omega
def zsum (f : Int → Int) : Nat → Int
  | 0 => 0
  | n + 1 => zsum f n + f (n : Int)
theorem zsum_b {f : Int → Int} {B : Int} (hf : ∀ j, 0 ≤ f j ∧ f j ≤ B) : ∀ n : Nat, 0 ≤ zsum f n ∧ zsum f n ≤ B * n := by
  intro n
  induction n with
  | zero => simp [zsum]
  | succ n ih =>
    have h := hf (n : Int)
    have h2 : B * ((n + 1 : Nat) : Int) = B * (n : Int) + B := by rw [Int.natCast_add, Int.mul_add]; simp
    rw [h2]
    show 0 ≤ zsum f n + f (n : Int) ∧ zsum f n + f (n : Int) ≤ _
    omega
theorem toNat_s {k : Int} (h : 0 ≤ k) : (k + 1).toNat = k.toNat + 1 := by omega
theorem toNat_c {k : Int} (h : 0 ≤ k) : ((k.toNat : Nat) : Int) = k := Int.toNat_of_nonneg h
theorem zsum_s (f : Int → Int) {k : Int} (h : 0 ≤ k) : zsum f (k + 1).toNat = zsum f k.toNat + f k := by
  rw [toNat_s h]; show zsum f k.toNat + f ((k.toNat : Nat) : Int) = _; rw [toNat_c h]
def pW (P : Int → Int) (pts k p q : Int) : Int := if q < 0 then P (k * pts + p) else max (P (k * pts + p)) (P (k * pts + q))
theorem pW_b {P : Int → Int} (hB : ∀ j, 0 ≤ P j ∧ P j ≤ 255) (pts k p q : Int) : 0 ≤ pW P pts k p q ∧ pW P pts k p q ≤ 255 := by
  have h1 := hB (k * pts + p); have h2 := hB (k * pts + q)
  unfold pW; split <;> omega
def stg (M : Int → Int) (k b : Int) : Int := min 255 (M (k * 4 + b) + M (k * 4 + 3))
theorem stg_b {M : Int → Int} (hM : ∀ j, 0 ≤ M j ∧ M j ≤ 255) (k b : Int) : 0 ≤ stg M k b ∧ stg M k b ≤ 255 := by
  have h1 := hM (k * 4 + b); have h2 := hM (k * 4 + 3)
  unfold stg; omega
/-- what is seen: f k the byte of ink k, g k its strength -/
def bnd (f g : Int → Int) : Nat → Int
  | 0 => 255
  | n + 1 => (bnd f g n * (65025 - f (n : Int) * g (n : Int)) + 32512) / 65025
theorem bnd_s (f g : Int → Int) {k : Int} (h : 0 ≤ k) : bnd f g (k + 1).toNat = (bnd f g k.toNat * (65025 - f k * g k) + 32512) / 65025 := by
  rw [toNat_s h]; show (bnd f g k.toNat * (65025 - f ((k.toNat : Nat) : Int) * g ((k.toNat : Nat) : Int)) + 32512) / 65025 = _; rw [toNat_c h]
theorem bnd_step {c v m : Int} (hc : 0 ≤ c ∧ c ≤ 255) (hv : 0 ≤ v ∧ v ≤ 255) (hm : 0 ≤ m ∧ m ≤ 255) : 0 ≤ v * m ∧ v * m ≤ 65025 ∧ 0 ≤ c * (65025 - v * m) ∧ c * (65025 - v * m) ≤ 16581375 := by
  have h1 := mul_b hv hm
  have h2 := mul_b hc (b := 65025 - v * m) (B := 65025) (by omega)
  omega
theorem bnd_b {f g : Int → Int} (hf : ∀ j, 0 ≤ f j ∧ f j ≤ 255) (hg : ∀ j, 0 ≤ g j ∧ g j ≤ 255) : ∀ n : Nat, 0 ≤ bnd f g n ∧ bnd f g n ≤ 255 := by
  intro n
  induction n with
  | zero => simp [bnd]
  | succ n ih =>
    have h := bnd_step ih (hf (n : Int)) (hg (n : Int))
    show 0 ≤ (bnd f g n * (65025 - f (n : Int) * g (n : Int)) + 32512) / 65025 ∧ (bnd f g n * (65025 - f (n : Int) * g (n : Int)) + 32512) / 65025 ≤ 255
    omega
def bandV (M P : Int → Int) (pts cnt b p q : Int) : Int := bnd (fun k => pW P pts k p q) (fun k => stg M k b) cnt.toNat
theorem bandV_b {M P : Int → Int} (hM : ∀ j, 0 ≤ M j ∧ M j ≤ 255) (hB : ∀ j, 0 ≤ P j ∧ P j ≤ 255) (pts cnt b p q : Int) : 0 ≤ bandV M P pts cnt b p q ∧ bandV M P pts cnt b p q ≤ 255 := bnd_b (fun j => pW_b hB _ _ _ _) (fun j => stg_b hM _ _) _
def lightV (M P : Int → Int) (pts cnt p : Int) : Int := (30 * bandV M P pts cnt 0 p (-1) + 59 * bandV M P pts cnt 1 p (-1) + 11 * bandV M P pts cnt 2 p (-1)) / 100
def anyB (f : Int → Bool) : Nat → Bool
  | 0 => false
  | n + 1 => anyB f n || f (n : Int)
theorem anyB_s (f : Int → Bool) {k : Int} (h : 0 ≤ k) : anyB f (k + 1).toNat = (anyB f k.toNat || f k) := by
  rw [toNat_s h]; show (anyB f k.toNat || f ((k.toNat : Nat) : Int)) = _; rw [toNat_c h]
theorem anyB_mono (f : Int → Bool) {a b : Nat} (h : a ≤ b) (ha : anyB f a = true) : anyB f b = true := by
  induction b with
  | zero => have : a = 0 := by omega
            rw [this] at ha; exact ha
  | succ n ih =>
    by_cases q : a = n + 1
    · rw [← q]; exact ha
    · show (anyB f n || f (n : Int)) = true
      rw [ih (by omega)]; rfl
def bI (b : Bool) : Int := if b then 1 else 0
theorem bI_01 (b : Bool) : bI b = 0 ∨ bI b = 1 := by cases b <;> simp [bI]
def mk25 (P : Int → Int) (pts p k : Int) : Bool := decide (25 ≤ P (k * pts + p))
def unlB (P : Int → Int) (pts cnt p q : Int) : Bool := !anyB (fun k => mk25 P pts p k && mk25 P pts q k) cnt.toNat && anyB (mk25 P pts p) cnt.toNat && anyB (mk25 P pts q) cnt.toNat

set_option maxHeartbeats 4000000 in
set_option maxRecDepth 100000 in
theorem c_X3_byteAt (l : Launch) (G : zG) (pg ik mx co pa : Nat) (w h pts cnt most rch : Int) (M C P : Int → Int) (k q : Int) (hp : pgOK w h pts cnt most rch M C P) (hk : 0 ≤ k ∧ k < 8) (hq : 0 ≤ q ∧ q < pts) : zRd l yX3_byteAt cX3_byteAt 3 (some .int) { frames := 0, cells := 0, slots := 0, locals := 0 } G [.ref pg, .int (zI (k)), .int (zI (q))] (pgL G pg ik mx co pa w h pts cnt most rch M C P) (P (k * pts + q)) := by
  refine Met.ofW (cc := cX3_byteAt) (maxL := 3) (ret := (some .int)) (by decide) rfl ?_
  intro p e s m args below meth c s₁ B hml hv
  obtain ⟨rfl, hP, hK⟩ := hv
  have hx := B.exec
  have hb := B.bytes
  have hr := B.returns
  have hT : ∀ w ∈ TB, w.before _ s = true := fun w h => atoms_spec (ws := Cond.code yX3_byteAt cX3_byteAt 3 (some .int) :: TB) B.pre w (List.mem_cons_of_mem _ h)
  have hown : s.vm.findClass RX3 = some m.cls := findClass_of_methodNamed B.named
  have hlocks := B.notSynchronized
  have hl := lv_entry ([.ref pg, .int (zI (k)), .int (zI (q))]) (n := 3) (Nat.le_of_ble_eq_true rfl)
  rw [lg_entry_eq]
  generalize (lg_sl ([.ref pg, .int (zI (k)), .int (zI (q))]) ++ List.replicate (3 - (lg_sl ([.ref pg, .int (zI (k)), .int (zI (q))])).length) Slot.unset).toArray = ls at hl ⊢
  have hl : lv_has ls 3 [(0, .ref pg), (1, .int (zI (k))), (2, .int (zI (q)))] := hl
  obtain ⟨hw, hh, hpts, hcnt, hmost, hrch, hM, hC, hB⟩ := id hp
  have hpt := pgOK_pts hp
  have hix := pg_ix hpt hk hq
  refine lv_aload_n hx hb dX3_byteAt_0 rfl (lv_at hl 0 rfl) ?_
  refine gf_X3_34 hx hb hT hown hK hP 0 rfl rfl dX3_byteAt_1 ?_
  refine lv_iload_n hx hb dX3_byteAt_4 rfl (lv_at hl 1 rfl) ?_
  refine lv_aload_n hx hb dX3_byteAt_5 rfl (lv_at hl 0 rfl) ?_
  refine gf_X3_31 hx hb hT hown hK hP 0 rfl rfl dX3_byteAt_6 ?_
  refine z_imul hx hb dX3_byteAt_9 ?_
  refine lv_iload_n hx hb dX3_byteAt_10 rfl (lv_at hl 2 rfl) ?_
  refine z_iadd hx hb dX3_byteAt_11 ?_
  refine z_iald hx hb hK hP 2 rfl (⟨by omega, by omega, by omega⟩) dX3_byteAt_12 ?_
  exact z_iret hx hb hr hlocks (rfl) dX3_byteAt_13

theorem bI_1 {q : Prop} [Decidable q] (h : q) : (1 : Int) = bI (decide q) := by simp [bI, h]
theorem bI_0 {q : Prop} [Decidable q] (h : ¬ q) : (0 : Int) = bI (decide q) := by simp [bI, h]
theorem bI_f {b : Bool} : bI b = 0 ↔ b = false := by cases b <;> simp [bI]
theorem bI_t {b : Bool} : ¬ bI b = 0 ↔ b = true := by cases b <;> simp [bI]
theorem unl_hit {P : Int → Int} {pts cnt one oth k : Int} (hk : 0 ≤ k ∧ k < cnt) (h1 : mk25 P pts one k = true) (h2 : mk25 P pts oth k = true) : unlB P pts cnt one oth = false := by
  have h3 : anyB (fun k => mk25 P pts one k && mk25 P pts oth k) (k + 1).toNat = true := by rw [anyB_s _ hk.1]; simp [h1, h2]
  have h4 := anyB_mono (fun k => mk25 P pts one k && mk25 P pts oth k) (a := (k + 1).toNat) (b := cnt.toNat) (by omega) h3
  unfold unlB; rw [h4]; rfl
set_option maxHeartbeats 4000000 in
set_option maxRecDepth 100000 in
theorem c_X3_byteWith (l : Launch) (G : zG) (pg ik mx co pa : Nat) (w h pts cnt most rch : Int) (M C P : Int → Int) (k q ln : Int) (hp : pgOK w h pts cnt most rch M C P) (hk : 0 ≤ k ∧ k < 8) (hq : 0 ≤ q ∧ q < pts) (hln : -1 ≤ ln ∧ ln < pts) : zRd l yX3_byteWith cX3_byteWith 5 (some .int) { frames := 1, cells := 0, slots := 0, locals := 22 } G [.ref pg, .int (zI (k)), .int (zI (q)), .int (zI (ln))] (pgL G pg ik mx co pa w h pts cnt most rch M C P) (pW P pts k q ln) := by
  refine Met.ofW (cc := cX3_byteWith) (maxL := 5) (ret := (some .int)) (by decide) rfl ?_
  intro p e s m args below meth c s₁ B hml hv
  obtain ⟨rfl, hP, hK⟩ := hv
  have hx := B.exec
  have hb := B.bytes
  have hr := B.returns
  have hT : ∀ w ∈ TB, w.before _ s = true := fun w h => atoms_spec (ws := Cond.code yX3_byteWith cX3_byteWith 5 (some .int) :: TB) B.pre w (List.mem_cons_of_mem _ h)
  have hown : s.vm.findClass RX3 = some m.cls := findClass_of_methodNamed B.named
  have hlocks := B.notSynchronized
  have hl := lv_entry ([.ref pg, .int (zI (k)), .int (zI (q)), .int (zI (ln))]) (n := 5) (Nat.le_of_ble_eq_true rfl)
  rw [lg_entry_eq]
  generalize (lg_sl ([.ref pg, .int (zI (k)), .int (zI (q)), .int (zI (ln))]) ++ List.replicate (5 - (lg_sl ([.ref pg, .int (zI (k)), .int (zI (q)), .int (zI (ln))])).length) Slot.unset).toArray = ls at hl ⊢
  have hl : lv_has ls 5 [(0, .ref pg), (1, .int (zI (k))), (2, .int (zI (q))), (3, .int (zI (ln)))] := hl
  obtain ⟨hw, hh, hpts, hcnt, hmost, hrch, hM, hC, hB⟩ := id hp
  have hpt := pgOK_pts hp
  have hb1 := hB (k * pts + q)
  have hb2 := hB (k * pts + ln)
  refine lv_aload_n hx hb dX3_byteWith_0 rfl (lv_at hl 0 rfl) ?_
  refine lv_iload_n hx hb dX3_byteWith_1 rfl (lv_at hl 1 rfl) ?_
  refine lv_iload_n hx hb dX3_byteWith_2 rfl (lv_at hl 2 rfl) ?_
  refine z_callV (q0 := 0) (G := G) (As := [.int (zI (k)), .int (zI (q))]) (rest := []) hx hb hml hown hT hK (c_X3_byteAt l G pg ik mx co pa w h pts cnt most rch M C P (k) (q) hp (by omega) (by omega)) kc_X3_38 ⟨Nat.le_of_ble_eq_true rfl, Nat.le_of_ble_eq_true rfl⟩ ⟨rfl, rfl⟩ ⟨Nat.zero_le _, Nat.zero_le _⟩ hP rfl rfl rfl rfl hl.1 rfl (Nat.le_of_ble_eq_true rfl) dX3_byteWith_3 ?_
  refine lv_istore (lv' := [(4, .int (zI ((P (k * pts + q))))), (0, .ref pg), (1, .int (zI (k))), (2, .int (zI (q))), (3, .int (zI (ln)))]) hx hb dX3_byteWith_6 hl (by decide) rfl (fun ls hl => ?_)
  refine lv_iload_n hx hb dX3_byteWith_8 rfl (lv_at hl 4 rfl) ?_
  refine z_if_ge (tgt := 17) hx hb dX3_byteWith_9 (by decide) (by omega) (fun h9 => ?_) (fun h9 => ?_)
  · skip
    refine lv_iload hx hb dX3_byteWith_17 (lv_at hl 0 rfl) ?_
    refine lv_aload_n hx hb dX3_byteWith_19 rfl (lv_at hl 1 rfl) ?_
    refine lv_iload_n hx hb dX3_byteWith_20 rfl (lv_at hl 2 rfl) ?_
    refine lv_iload_n hx hb dX3_byteWith_21 rfl (lv_at hl 4 rfl) ?_
    refine z_callV (q0 := 0) (G := G) (As := [.int (zI (k)), .int (zI (ln))]) (rest := [.int (zI ((P (k * pts + q))))]) hx hb hml hown hT hK (c_X3_byteAt l G pg ik mx co pa w h pts cnt most rch M C P (k) (ln) hp (by omega) (by omega)) kc_X3_38 ⟨Nat.le_of_ble_eq_true rfl, Nat.le_of_ble_eq_true rfl⟩ ⟨rfl, rfl⟩ ⟨Nat.zero_le _, Nat.zero_le _⟩ hP rfl rfl rfl rfl hl.1 rfl (Nat.le_of_ble_eq_true rfl) dX3_byteWith_22 ?_
    refine z_mmax hx hb hml hl.1 hown hT kc_X3_42 ⟨Nat.le_of_ble_eq_true rfl, Nat.le_of_ble_eq_true rfl⟩ ⟨Nat.zero_le _, Nat.zero_le _⟩ (by omega) (by omega) dX3_byteWith_25 ?_
    exact z_iret hx hb hr hlocks (by unfold pW; split <;> first | rfl | omega) dX3_byteWith_28
  · skip
    refine lv_iload hx hb dX3_byteWith_12 (lv_at hl 0 rfl) ?_
    refine z_goto (tgt := 28) hx hb dX3_byteWith_14 (by decide) ?_
    exact z_iret hx hb hr hlocks (by unfold pW; split <;> first | rfl | omega) dX3_byteWith_28

set_option maxHeartbeats 4000000 in
set_option maxRecDepth 100000 in
theorem c_X3_sumAt (l : Launch) (G : zG) (pg ik mx co pa : Nat) (w h pts cnt most rch : Int) (M C P : Int → Int) (q : Int) (hp : pgOK w h pts cnt most rch M C P) (hq : 0 ≤ q ∧ q < pts) : zRd l yX3_sumAt cX3_sumAt 4 (some .int) { frames := 1, cells := 0, slots := 0, locals := 22 } G [.ref pg, .int (zI (q))] (pgL G pg ik mx co pa w h pts cnt most rch M C P) (zsum (fun j => P (j * pts + q)) cnt.toNat) := by
  refine Met.ofW (cc := cX3_sumAt) (maxL := 4) (ret := (some .int)) (by decide) rfl ?_
  intro p e s m args below meth c s₁ B hml hv
  obtain ⟨rfl, hP, hK⟩ := hv
  have hx := B.exec
  have hb := B.bytes
  have hr := B.returns
  have hT : ∀ w ∈ TB, w.before _ s = true := fun w h => atoms_spec (ws := Cond.code yX3_sumAt cX3_sumAt 4 (some .int) :: TB) B.pre w (List.mem_cons_of_mem _ h)
  have hown : s.vm.findClass RX3 = some m.cls := findClass_of_methodNamed B.named
  have hlocks := B.notSynchronized
  have hl := lv_entry ([.ref pg, .int (zI (q))]) (n := 4) (Nat.le_of_ble_eq_true rfl)
  rw [lg_entry_eq]
  generalize (lg_sl ([.ref pg, .int (zI (q))]) ++ List.replicate (4 - (lg_sl ([.ref pg, .int (zI (q))])).length) Slot.unset).toArray = ls at hl ⊢
  have hl : lv_has ls 4 [(0, .ref pg), (1, .int (zI (q)))] := hl
  obtain ⟨hw, hh, hpts, hcnt, hmost, hrch, hM, hC, hB⟩ := id hp
  have hpt := pgOK_pts hp
  refine z_iconst hx hb dX3_sumAt_0 ?_
  refine lv_istore_n (lv' := [(2, .int (zI (0))), (0, .ref pg), (1, .int (zI (q)))]) hx hb dX3_sumAt_1 rfl hl (by decide) rfl (fun ls hl => ?_)
  refine z_iconst hx hb dX3_sumAt_2 ?_
  refine lv_istore_n (lv' := [(3, .int (zI (0))), (2, .int (zI (0))), (0, .ref pg), (1, .int (zI (q)))]) hx hb dX3_sumAt_3 rfl hl (by decide) rfl (fun ls hl => ?_)
  refine z_loop (σ := Int × Array Slot) (fun zq => F0 m 4 (zq.2) []) (fun zq => (0 ≤ zq.1 ∧ zq.1 ≤ cnt) ∧ lv_has (zq.2) 4 [(0, .ref pg), (1, .int (zI (q))), (2, .int (zI (zsum (fun j => P (j * pts + q)) zq.1.toNat))), (3, .int (zI (zq.1)))]) (fun zq => (cnt - zq.1).toNat) ?_ (0, ls) ⟨by refine ⟨?_, ?_⟩ <;> omega, lv_sub hl [2, 3, 1, 0] rfl⟩
  intro zq hq ih
  obtain ⟨k, ls⟩ := zq
  obtain ⟨hI, hl⟩ := hq
  try dsimp only at hI hl ih ⊢
  have ih4 := ih
  refine lv_iload_n hx hb dX3_sumAt_4 rfl (lv_at hl 3 rfl) ?_
  refine lv_aload_n hx hb dX3_sumAt_5 rfl (lv_at hl 0 rfl) ?_
  refine gf_X3_14 hx hb hT hown hK hP 0 rfl rfl dX3_sumAt_6 ?_
  refine gf_X3_47 hx hb hT hown hK hP 1 rfl rfl dX3_sumAt_9 ?_
  refine z_icmp_ge (tgt := 30) hx hb dX3_sumAt_12 (by decide) (by omega) (by omega) (fun h12 => ?_) (fun h12 => ?_)
  · skip
    refine lv_iload_n hx hb dX3_sumAt_30 rfl (lv_at hl 2 rfl) ?_
    exact z_iret hx hb hr hlocks (by have hkc : k = cnt := (by omega); subst hkc; rfl) dX3_sumAt_31
  · skip
    refine lv_iload_n hx hb dX3_sumAt_15 rfl (lv_at hl 2 rfl) ?_
    refine lv_aload_n hx hb dX3_sumAt_16 rfl (lv_at hl 0 rfl) ?_
    refine lv_iload_n hx hb dX3_sumAt_17 rfl (lv_at hl 3 rfl) ?_
    refine lv_iload_n hx hb dX3_sumAt_18 rfl (lv_at hl 1 rfl) ?_
    refine z_callV (q0 := 0) (G := G) (As := [.int (zI (k)), .int (zI (q))]) (rest := [.int (zI (zsum (fun j => P (j * pts + q)) k.toNat))]) hx hb hml hown hT hK (c_X3_byteAt l G pg ik mx co pa w h pts cnt most rch M C P (k) (q) hp (by omega) (by omega)) kc_X3_38 ⟨Nat.le_of_ble_eq_true rfl, Nat.le_of_ble_eq_true rfl⟩ ⟨rfl, rfl⟩ ⟨Nat.zero_le _, Nat.zero_le _⟩ hP rfl rfl rfl rfl hl.1 rfl (Nat.le_of_ble_eq_true rfl) dX3_sumAt_19 ?_
    refine z_iadd hx hb dX3_sumAt_22 ?_
    refine z_top (zsum (fun j => P (j * pts + q)) (k + 1).toNat) ((zsum_s _ (by omega)).symm) ?_
    refine lv_istore_n (lv' := [(2, .int (zI (zsum (fun j => P (j * pts + q)) (k + 1).toNat))), (0, .ref pg), (1, .int (zI (q))), (3, .int (zI (k)))]) hx hb dX3_sumAt_23 rfl hl (by decide) rfl (fun ls hl => ?_)
    refine lv_iinc (v := zI (k + (1))) (lv' := [(3, .int (zI (k + (1)))), (2, .int (zI (zsum (fun j => P (j * pts + q)) (k + 1).toNat))), (0, .ref pg), (1, .int (zI (q)))]) hx hb dX3_sumAt_24 hl (k := 3) rfl (zI_add _ _) (by decide) rfl (fun ls hl => ?_)
    refine z_goto (tgt := 4) hx hb dX3_sumAt_27 (by decide) ?_
    exact ih4 (k + 1, ls) ⟨by refine ⟨?_, ?_⟩ <;> omega, lv_sub hl [2, 3, 1, 0] rfl⟩ (by omega)

set_option maxHeartbeats 4000000 in
set_option maxRecDepth 100000 in
theorem c_X2_strength (l : Launch) (G : zG) (pg ik mx co pa : Nat) (w h pts cnt most rch : Int) (M C P : Int → Int) (k b : Int) (hp : pgOK w h pts cnt most rch M C P) (hk : 0 ≤ k ∧ k < 8) (hq : 0 ≤ b ∧ b < 4) : zRd l yX2_strength cX2_strength 3 (some .int) { frames := 1, cells := 0, slots := 0, locals := 13 } G [.ref ik, .int (zI (k)), .int (zI (b))] (pgL G pg ik mx co pa w h pts cnt most rch M C P) (stg M k b) := by
  refine Met.ofW (cc := cX2_strength) (maxL := 3) (ret := (some .int)) (by decide) rfl ?_
  intro p e s m args below meth c s₁ B hml hv
  obtain ⟨rfl, hP, hK⟩ := hv
  have hx := B.exec
  have hb := B.bytes
  have hr := B.returns
  have hT : ∀ w ∈ TB, w.before _ s = true := fun w h => atoms_spec (ws := Cond.code yX2_strength cX2_strength 3 (some .int) :: TB) B.pre w (List.mem_cons_of_mem _ h)
  have hown : s.vm.findClass RX2 = some m.cls := findClass_of_methodNamed B.named
  have hlocks := B.notSynchronized
  have hl := lv_entry ([.ref ik, .int (zI (k)), .int (zI (b))]) (n := 3) (Nat.le_of_ble_eq_true rfl)
  rw [lg_entry_eq]
  generalize (lg_sl ([.ref ik, .int (zI (k)), .int (zI (b))]) ++ List.replicate (3 - (lg_sl ([.ref ik, .int (zI (k)), .int (zI (b))])).length) Slot.unset).toArray = ls at hl ⊢
  have hl : lv_has ls 3 [(0, .ref ik), (1, .int (zI (k))), (2, .int (zI (b)))] := hl
  obtain ⟨hw, hh, hpts, hcnt, hmost, hrch, hM, hC, hB⟩ := id hp
  have hpt := pgOK_pts hp
  have hm1 := hM (k * 4 + b)
  have hm2 := hM (k * 4 + 3)
  refine z_sipush hx hb dX2_strength_0 (by decide +kernel) ?_
  refine lv_aload_n hx hb dX2_strength_3 rfl (lv_at hl 0 rfl) ?_
  refine gf_X2_11 hx hb hT hown hK hP 1 rfl rfl dX2_strength_4 ?_
  refine lv_iload_n hx hb dX2_strength_7 rfl (lv_at hl 1 rfl) ?_
  refine z_iconst hx hb dX2_strength_8 ?_
  refine z_imul hx hb dX2_strength_9 ?_
  refine lv_iload_n hx hb dX2_strength_10 rfl (lv_at hl 2 rfl) ?_
  refine z_iadd hx hb dX2_strength_11 ?_
  refine z_iald hx hb hK hP 3 rfl (⟨by omega, by omega, by omega⟩) dX2_strength_12 ?_
  refine lv_aload_n hx hb dX2_strength_13 rfl (lv_at hl 0 rfl) ?_
  refine gf_X2_11 hx hb hT hown hK hP 1 rfl rfl dX2_strength_14 ?_
  refine lv_iload_n hx hb dX2_strength_17 rfl (lv_at hl 1 rfl) ?_
  refine z_iconst hx hb dX2_strength_18 ?_
  refine z_imul hx hb dX2_strength_19 ?_
  refine z_iconst hx hb dX2_strength_20 ?_
  refine z_iadd hx hb dX2_strength_21 ?_
  refine z_iald hx hb hK hP 3 rfl (⟨by omega, by omega, by omega⟩) dX2_strength_22 ?_
  refine z_iadd hx hb dX2_strength_23 ?_
  refine z_mmin hx hb hml hl.1 hown hT kc_X2_22 ⟨Nat.le_of_ble_eq_true rfl, Nat.le_of_ble_eq_true rfl⟩ ⟨Nat.zero_le _, Nat.zero_le _⟩ (by omega) (by omega) dX2_strength_24 ?_
  exact z_iret hx hb hr hlocks (rfl) dX2_strength_27

set_option maxHeartbeats 4000000 in
set_option maxRecDepth 100000 in
theorem c_X3_bandOf (l : Launch) (G : zG) (pg ik mx co pa : Nat) (w h pts cnt most rch : Int) (M C P : Int → Int) (b q ln : Int) (hp : pgOK w h pts cnt most rch M C P) (hb3 : 0 ≤ b ∧ b < 3) (hq : 0 ≤ q ∧ q < pts) (hln : -1 ≤ ln ∧ ln < pts) : zRd l yX3_bandOf cX3_bandOf 7 (some .int) { frames := 2, cells := 0, slots := 0, locals := 46 } G [.ref pg, .int (zI (b)), .int (zI (q)), .int (zI (ln))] (pgL G pg ik mx co pa w h pts cnt most rch M C P) (bandV M P pts cnt b q ln) := by
  refine Met.ofW (cc := cX3_bandOf) (maxL := 7) (ret := (some .int)) (by decide) rfl ?_
  intro p e s m args below meth c s₁ B hml hv
  obtain ⟨rfl, hP, hK⟩ := hv
  have hx := B.exec
  have hb := B.bytes
  have hr := B.returns
  have hT : ∀ w ∈ TB, w.before _ s = true := fun w h => atoms_spec (ws := Cond.code yX3_bandOf cX3_bandOf 7 (some .int) :: TB) B.pre w (List.mem_cons_of_mem _ h)
  have hown : s.vm.findClass RX3 = some m.cls := findClass_of_methodNamed B.named
  have hlocks := B.notSynchronized
  have hl := lv_entry ([.ref pg, .int (zI (b)), .int (zI (q)), .int (zI (ln))]) (n := 7) (Nat.le_of_ble_eq_true rfl)
  rw [lg_entry_eq]
  generalize (lg_sl ([.ref pg, .int (zI (b)), .int (zI (q)), .int (zI (ln))]) ++ List.replicate (7 - (lg_sl ([.ref pg, .int (zI (b)), .int (zI (q)), .int (zI (ln))])).length) Slot.unset).toArray = ls at hl ⊢
  have hl : lv_has ls 7 [(0, .ref pg), (1, .int (zI (b))), (2, .int (zI (q))), (3, .int (zI (ln)))] := hl
  obtain ⟨hw, hh, hpts, hcnt, hmost, hrch, hM, hC, hB⟩ := id hp
  have hpt := pgOK_pts hp
  refine z_sipush hx hb dX3_bandOf_0 (by decide +kernel) ?_
  refine lv_istore (lv' := [(4, .int (zI (255))), (0, .ref pg), (1, .int (zI (b))), (2, .int (zI (q))), (3, .int (zI (ln)))]) hx hb dX3_bandOf_3 hl (by decide) rfl (fun ls hl => ?_)
  refine z_iconst hx hb dX3_bandOf_5 ?_
  refine lv_istore (lv' := [(5, .int (zI (0))), (4, .int (zI (255))), (0, .ref pg), (1, .int (zI (b))), (2, .int (zI (q))), (3, .int (zI (ln)))]) hx hb dX3_bandOf_6 hl (by decide) rfl (fun ls hl => ?_)
  refine z_loop (σ := Int × Array Slot) (fun zq => F0 m 8 (zq.2) []) (fun zq => (0 ≤ zq.1 ∧ zq.1 ≤ cnt) ∧ lv_has (zq.2) 7 [(0, .ref pg), (1, .int (zI (b))), (2, .int (zI (q))), (3, .int (zI (ln))), (4, .int (zI (bnd (fun j => pW P pts j q ln) (fun j => stg M j b) zq.1.toNat))), (5, .int (zI (zq.1)))]) (fun zq => (cnt - zq.1).toNat) ?_ (0, ls) ⟨by refine ⟨?_, ?_⟩ <;> omega, lv_sub hl [2, 3, 4, 5, 1, 0] rfl⟩
  intro zq hq ih
  obtain ⟨k, ls⟩ := zq
  obtain ⟨hI, hl⟩ := hq
  try dsimp only at hI hl ih ⊢
  have ih8 := ih
  refine lv_iload hx hb dX3_bandOf_8 (lv_at hl 5 rfl) ?_
  refine lv_aload_n hx hb dX3_bandOf_10 rfl (lv_at hl 0 rfl) ?_
  refine gf_X3_14 hx hb hT hown hK hP 0 rfl rfl dX3_bandOf_11 ?_
  refine gf_X3_47 hx hb hT hown hK hP 1 rfl rfl dX3_bandOf_14 ?_
  refine z_icmp_ge (tgt := 64) hx hb dX3_bandOf_17 (by decide) (by omega) (by omega) (fun h17 => ?_) (fun h17 => ?_)
  · skip
    refine lv_iload hx hb dX3_bandOf_64 (lv_at hl 4 rfl) ?_
    exact z_iret hx hb hr hlocks (by have hkc : k = cnt := (by omega); subst hkc; rfl) dX3_bandOf_66
  · skip
    have hf1 : 0 ≤ bnd (fun j => pW P pts j q ln) (fun j => stg M j b) k.toNat ∧ bnd (fun j => pW P pts j q ln) (fun j => stg M j b) k.toNat ≤ 255 := bnd_b (fun j => pW_b hB _ _ _ _) (fun j => stg_b hM _ _) _
    have hf2 := pW_b hB pts k q ln
    have hf3 := stg_b hM k b
    have hf4 := bnd_step hf1 hf2 hf3
    refine lv_aload_n hx hb dX3_bandOf_20 rfl (lv_at hl 0 rfl) ?_
    refine lv_iload hx hb dX3_bandOf_21 (lv_at hl 5 rfl) ?_
    refine lv_iload_n hx hb dX3_bandOf_23 rfl (lv_at hl 2 rfl) ?_
    refine lv_iload_n hx hb dX3_bandOf_24 rfl (lv_at hl 3 rfl) ?_
    refine z_callV (q0 := 0) (G := G) (As := [.int (zI (k)), .int (zI (q)), .int (zI (ln))]) (rest := []) hx hb hml hown hT hK (c_X3_byteWith l G pg ik mx co pa w h pts cnt most rch M C P (k) (q) (ln) hp (by omega) (by omega) (by omega)) kc_X3_68 ⟨Nat.le_of_ble_eq_true rfl, Nat.le_of_ble_eq_true rfl⟩ ⟨rfl, rfl⟩ ⟨Nat.zero_le _, Nat.zero_le _⟩ hP rfl rfl rfl rfl hl.1 rfl (Nat.le_of_ble_eq_true rfl) dX3_bandOf_25 ?_
    refine lv_aload_n hx hb dX3_bandOf_28 rfl (lv_at hl 0 rfl) ?_
    refine gf_X3_14 hx hb hT hown hK hP 0 rfl rfl dX3_bandOf_29 ?_
    refine lv_iload hx hb dX3_bandOf_32 (lv_at hl 5 rfl) ?_
    refine lv_iload_n hx hb dX3_bandOf_34 rfl (lv_at hl 1 rfl) ?_
    refine z_callV (q0 := 1) (G := G) (As := [.int (zI (k)), .int (zI (b))]) (rest := [.int (zI ((pW P pts k q ln)))]) hx hb hml hown hT hK (c_X2_strength l G pg ik mx co pa w h pts cnt most rch M C P (k) (b) hp (by omega) (by omega)) kc_X3_72 ⟨Nat.le_of_ble_eq_true rfl, Nat.le_of_ble_eq_true rfl⟩ ⟨rfl, rfl⟩ ⟨Nat.zero_le _, Nat.zero_le _⟩ hP rfl rfl rfl rfl hl.1 rfl (Nat.le_of_ble_eq_true rfl) dX3_bandOf_35 ?_
    refine z_imul hx hb dX3_bandOf_38 ?_
    refine lv_istore (lv' := [(6, .int (zI (((pW P pts k q ln) * (stg M k b))))), (0, .ref pg), (1, .int (zI (b))), (2, .int (zI (q))), (3, .int (zI (ln))), (4, .int (zI (bnd (fun j => pW P pts j q ln) (fun j => stg M j b) k.toNat))), (5, .int (zI (k)))]) hx hb dX3_bandOf_39 hl (by decide) rfl (fun ls hl => ?_)
    refine lv_iload hx hb dX3_bandOf_41 (lv_at hl 5 rfl) ?_
    refine lv_ldc (v := zI (65025)) hx hb hown (hT _ (mT 350 (by decide +kernel) rfl)) dX3_bandOf_43 ?_
    refine lv_iload hx hb dX3_bandOf_45 (lv_at hl 0 rfl) ?_
    refine z_isub hx hb dX3_bandOf_47 ?_
    refine z_imul hx hb dX3_bandOf_48 ?_
    refine z_sipush hx hb dX3_bandOf_49 (by decide +kernel) ?_
    refine z_iadd hx hb dX3_bandOf_52 ?_
    refine lv_ldc (v := zI (65025)) hx hb hown (hT _ (mT 350 (by decide +kernel) rfl)) dX3_bandOf_53 ?_
    refine z_idiv hx hb dX3_bandOf_55 (by omega) (by omega) ?_
    refine z_top (bnd (fun j => pW P pts j q ln) (fun j => stg M j b) (k + 1).toNat) ((bnd_s _ _ (by omega)).symm) ?_
    refine lv_istore (lv' := [(4, .int (zI (bnd (fun j => pW P pts j q ln) (fun j => stg M j b) (k + 1).toNat))), (6, .int (zI (((pW P pts k q ln) * (stg M k b))))), (0, .ref pg), (1, .int (zI (b))), (2, .int (zI (q))), (3, .int (zI (ln))), (5, .int (zI (k)))]) hx hb dX3_bandOf_56 hl (by decide) rfl (fun ls hl => ?_)
    refine lv_iinc (v := zI (k + (1))) (lv' := [(5, .int (zI (k + (1)))), (4, .int (zI (bnd (fun j => pW P pts j q ln) (fun j => stg M j b) (k + 1).toNat))), (6, .int (zI (((pW P pts k q ln) * (stg M k b))))), (0, .ref pg), (1, .int (zI (b))), (2, .int (zI (q))), (3, .int (zI (ln)))]) hx hb dX3_bandOf_58 hl (k := 6) rfl (zI_add _ _) (by decide) rfl (fun ls hl => ?_)
    refine z_goto (tgt := 8) hx hb dX3_bandOf_61 (by decide) ?_
    exact ih8 (k + 1, ls) ⟨by refine ⟨?_, ?_⟩ <;> omega, lv_sub hl [3, 4, 5, 6, 1, 0] rfl⟩ (by omega)

set_option maxHeartbeats 4000000 in
set_option maxRecDepth 100000 in
theorem c_X3_lightness (l : Launch) (G : zG) (pg ik mx co pa : Nat) (w h pts cnt most rch : Int) (M C P : Int → Int) (q : Int) (hp : pgOK w h pts cnt most rch M C P) (hq : 0 ≤ q ∧ q < pts) : zRd l yX3_lightness cX3_lightness 2 (some .int) { frames := 3, cells := 0, slots := 0, locals := 72 } G [.ref pg, .int (zI (q))] (pgL G pg ik mx co pa w h pts cnt most rch M C P) (lightV M P pts cnt q) := by
  refine Met.ofW (cc := cX3_lightness) (maxL := 2) (ret := (some .int)) (by decide) rfl ?_
  intro p e s m args below meth c s₁ B hml hv
  obtain ⟨rfl, hP, hK⟩ := hv
  have hx := B.exec
  have hb := B.bytes
  have hr := B.returns
  have hT : ∀ w ∈ TB, w.before _ s = true := fun w h => atoms_spec (ws := Cond.code yX3_lightness cX3_lightness 2 (some .int) :: TB) B.pre w (List.mem_cons_of_mem _ h)
  have hown : s.vm.findClass RX3 = some m.cls := findClass_of_methodNamed B.named
  have hlocks := B.notSynchronized
  have hl := lv_entry ([.ref pg, .int (zI (q))]) (n := 2) (Nat.le_of_ble_eq_true rfl)
  rw [lg_entry_eq]
  generalize (lg_sl ([.ref pg, .int (zI (q))]) ++ List.replicate (2 - (lg_sl ([.ref pg, .int (zI (q))])).length) Slot.unset).toArray = ls at hl ⊢
  have hl : lv_has ls 2 [(0, .ref pg), (1, .int (zI (q)))] := hl
  obtain ⟨hw, hh, hpts, hcnt, hmost, hrch, hM, hC, hB⟩ := id hp
  have hpt := pgOK_pts hp
  have hb0 := bandV_b hM hB pts cnt 0 q (-1)
  have hb1 := bandV_b hM hB pts cnt 1 q (-1)
  have hb2 := bandV_b hM hB pts cnt 2 q (-1)
  refine z_bipush hx hb dX3_lightness_0 (by decide +kernel) ?_
  refine lv_aload_n hx hb dX3_lightness_2 rfl (lv_at hl 0 rfl) ?_
  refine z_iconst hx hb dX3_lightness_3 ?_
  refine lv_iload_n hx hb dX3_lightness_4 rfl (lv_at hl 1 rfl) ?_
  refine z_iconst hx hb dX3_lightness_5 ?_
  refine z_callV (q0 := 0) (G := G) (As := [.int (zI (0)), .int (zI (q)), .int (zI ((-1)))]) (rest := [.int (zI (30))]) hx hb hml hown hT hK (c_X3_bandOf l G pg ik mx co pa w h pts cnt most rch M C P (0) (q) ((-1)) hp (by omega) (by omega) (by omega)) kc_X3_76 ⟨Nat.le_of_ble_eq_true rfl, Nat.le_of_ble_eq_true rfl⟩ ⟨rfl, rfl⟩ ⟨Nat.zero_le _, Nat.zero_le _⟩ hP rfl rfl rfl rfl hl.1 rfl (Nat.le_of_ble_eq_true rfl) dX3_lightness_6 ?_
  refine z_imul hx hb dX3_lightness_9 ?_
  refine z_bipush hx hb dX3_lightness_10 (by decide +kernel) ?_
  refine lv_aload_n hx hb dX3_lightness_12 rfl (lv_at hl 0 rfl) ?_
  refine z_iconst hx hb dX3_lightness_13 ?_
  refine lv_iload_n hx hb dX3_lightness_14 rfl (lv_at hl 1 rfl) ?_
  refine z_iconst hx hb dX3_lightness_15 ?_
  refine z_callV (q0 := 0) (G := G) (As := [.int (zI (1)), .int (zI (q)), .int (zI ((-1)))]) (rest := [.int (zI (59)), .int (zI ((30 * (bandV M P pts cnt 0 q (-1)))))]) hx hb hml hown hT hK (c_X3_bandOf l G pg ik mx co pa w h pts cnt most rch M C P (1) (q) ((-1)) hp (by omega) (by omega) (by omega)) kc_X3_76 ⟨Nat.le_of_ble_eq_true rfl, Nat.le_of_ble_eq_true rfl⟩ ⟨rfl, rfl⟩ ⟨Nat.zero_le _, Nat.zero_le _⟩ hP rfl rfl rfl rfl hl.1 rfl (Nat.le_of_ble_eq_true rfl) dX3_lightness_16 ?_
  refine z_imul hx hb dX3_lightness_19 ?_
  refine z_iadd hx hb dX3_lightness_20 ?_
  refine z_bipush hx hb dX3_lightness_21 (by decide +kernel) ?_
  refine lv_aload_n hx hb dX3_lightness_23 rfl (lv_at hl 0 rfl) ?_
  refine z_iconst hx hb dX3_lightness_24 ?_
  refine lv_iload_n hx hb dX3_lightness_25 rfl (lv_at hl 1 rfl) ?_
  refine z_iconst hx hb dX3_lightness_26 ?_
  refine z_callV (q0 := 0) (G := G) (As := [.int (zI (2)), .int (zI (q)), .int (zI ((-1)))]) (rest := [.int (zI (11)), .int (zI (((30 * (bandV M P pts cnt 0 q (-1))) + (59 * (bandV M P pts cnt 1 q (-1))))))]) hx hb hml hown hT hK (c_X3_bandOf l G pg ik mx co pa w h pts cnt most rch M C P (2) (q) ((-1)) hp (by omega) (by omega) (by omega)) kc_X3_76 ⟨Nat.le_of_ble_eq_true rfl, Nat.le_of_ble_eq_true rfl⟩ ⟨rfl, rfl⟩ ⟨Nat.zero_le _, Nat.zero_le _⟩ hP rfl rfl rfl rfl hl.1 rfl (Nat.le_of_ble_eq_true rfl) dX3_lightness_27 ?_
  refine z_imul hx hb dX3_lightness_30 ?_
  refine z_iadd hx hb dX3_lightness_31 ?_
  refine z_bipush hx hb dX3_lightness_32 (by decide +kernel) ?_
  refine z_idiv hx hb dX3_lightness_34 (by omega) (by omega) ?_
  exact z_iret hx hb hr hlocks (rfl) dX3_lightness_35

set_option maxHeartbeats 4000000 in
set_option maxRecDepth 100000 in
theorem c_X3_unlike (l : Launch) (G : zG) (pg ik mx co pa : Nat) (w h pts cnt most rch : Int) (M C P : Int → Int) (one oth : Int) (hp : pgOK w h pts cnt most rch M C P) (h1 : 0 ≤ one ∧ one < pts) (h2 : 0 ≤ oth ∧ oth < pts) : zRd l yX3_unlike cX3_unlike 8 (some .boolean) { frames := 1, cells := 0, slots := 0, locals := 22 } G [.ref pg, .int (zI (one)), .int (zI (oth))] (pgL G pg ik mx co pa w h pts cnt most rch M C P) (bI (unlB P pts cnt one oth)) := by
  refine Met.ofW (cc := cX3_unlike) (maxL := 8) (ret := (some .boolean)) (by decide) rfl ?_
  intro p e s m args below meth c s₁ B hml hv
  obtain ⟨rfl, hP, hK⟩ := hv
  have hx := B.exec
  have hb := B.bytes
  have hr := B.returns
  have hT : ∀ w ∈ TB, w.before _ s = true := fun w h => atoms_spec (ws := Cond.code yX3_unlike cX3_unlike 8 (some .boolean) :: TB) B.pre w (List.mem_cons_of_mem _ h)
  have hown : s.vm.findClass RX3 = some m.cls := findClass_of_methodNamed B.named
  have hlocks := B.notSynchronized
  have hl := lv_entry ([.ref pg, .int (zI (one)), .int (zI (oth))]) (n := 8) (Nat.le_of_ble_eq_true rfl)
  rw [lg_entry_eq]
  generalize (lg_sl ([.ref pg, .int (zI (one)), .int (zI (oth))]) ++ List.replicate (8 - (lg_sl ([.ref pg, .int (zI (one)), .int (zI (oth))])).length) Slot.unset).toArray = ls at hl ⊢
  have hl : lv_has ls 8 [(0, .ref pg), (1, .int (zI (one))), (2, .int (zI (oth)))] := hl
  obtain ⟨hw, hh, hpts, hcnt, hmost, hrch, hM, hC, hB⟩ := id hp
  have hpt := pgOK_pts hp
  have hb1 : ∀ k, 0 ≤ P (k * pts + one) ∧ P (k * pts + one) ≤ 255 := fun k => hB _
  have hb2 : ∀ k, 0 ≤ P (k * pts + oth) ∧ P (k * pts + oth) ≤ 255 := fun k => hB _
  refine z_iconst hx hb dX3_unlike_0 ?_
  refine lv_istore_n (lv' := [(3, .int (zI (0))), (0, .ref pg), (1, .int (zI (one))), (2, .int (zI (oth)))]) hx hb dX3_unlike_1 rfl hl (by decide) rfl (fun ls hl => ?_)
  refine z_iconst hx hb dX3_unlike_2 ?_
  refine lv_istore (lv' := [(4, .int (zI (0))), (3, .int (zI (0))), (0, .ref pg), (1, .int (zI (one))), (2, .int (zI (oth)))]) hx hb dX3_unlike_3 hl (by decide) rfl (fun ls hl => ?_)
  refine z_iconst hx hb dX3_unlike_5 ?_
  refine lv_istore (lv' := [(5, .int (zI (0))), (4, .int (zI (0))), (3, .int (zI (0))), (0, .ref pg), (1, .int (zI (one))), (2, .int (zI (oth)))]) hx hb dX3_unlike_6 hl (by decide) rfl (fun ls hl => ?_)
  refine z_loop (σ := Int × Array Slot) (fun zq => F0 m 8 (zq.2) []) (fun zq => ((0 ≤ zq.1 ∧ zq.1 ≤ cnt) ∧ anyB (fun j => mk25 P pts one j && mk25 P pts oth j) zq.1.toNat = false) ∧ lv_has (zq.2) 8 [(0, .ref pg), (1, .int (zI (one))), (2, .int (zI (oth))), (3, .int (zI (bI (anyB (mk25 P pts one) zq.1.toNat)))), (4, .int (zI (bI (anyB (mk25 P pts oth) zq.1.toNat)))), (5, .int (zI (zq.1)))]) (fun zq => (cnt - zq.1).toNat) ?_ (0, ls) ⟨⟨by omega, rfl⟩, lv_sub hl [3, 4, 5, 2, 1, 0] rfl⟩
  intro zq hq ih
  obtain ⟨k, ls⟩ := zq
  obtain ⟨⟨hI, hI2⟩, hl⟩ := hq
  try dsimp only at hI hI2 hl ih ⊢
  have ih8 := ih
  refine lv_iload hx hb dX3_unlike_8 (lv_at hl 5 rfl) ?_
  refine lv_aload_n hx hb dX3_unlike_10 rfl (lv_at hl 0 rfl) ?_
  refine gf_X3_14 hx hb hT hown hK hP 0 rfl rfl dX3_unlike_11 ?_
  refine gf_X3_47 hx hb hT hown hK hP 1 rfl rfl dX3_unlike_14 ?_
  refine z_icmp_ge (tgt := 108) hx hb dX3_unlike_17 (by decide) (by omega) (by omega) (fun h17 => ?_) (fun h17 => ?_)
  · skip
    have hkc : k = cnt := by omega
    subst hkc
    have h3 := bI_01 (anyB (mk25 P pts one) k.toNat)
    have h4 := bI_01 (anyB (mk25 P pts oth) k.toNat)
    refine lv_iload_n hx hb dX3_unlike_108 rfl (lv_at hl 3 rfl) ?_
    refine z_if_eq (tgt := 121) hx hb dX3_unlike_109 (by decide) (by omega) (fun h109 => ?_) (fun h109 => ?_)
    · skip
      refine z_iconst hx hb dX3_unlike_121 ?_
      exact z_zret hx hb hr hlocks (by omega) (by unfold unlB; rw [hI2]; cases hA9 : anyB (mk25 P pts one) k.toNat <;> cases hB9 : anyB (mk25 P pts oth) k.toNat <;> simp_all [bI]) dX3_unlike_122
    · skip
      refine lv_iload hx hb dX3_unlike_112 (lv_at hl 4 rfl) ?_
      refine z_if_eq (tgt := 121) hx hb dX3_unlike_114 (by decide) (by omega) (fun h114 => ?_) (fun h114 => ?_)
      · skip
        refine z_iconst hx hb dX3_unlike_121 ?_
        exact z_zret hx hb hr hlocks (by omega) (by unfold unlB; rw [hI2]; cases hA9 : anyB (mk25 P pts one) k.toNat <;> cases hB9 : anyB (mk25 P pts oth) k.toNat <;> simp_all [bI]) dX3_unlike_122
      · skip
        refine z_iconst hx hb dX3_unlike_117 ?_
        refine z_goto (tgt := 122) hx hb dX3_unlike_118 (by decide) ?_
        exact z_zret hx hb hr hlocks (by omega) (by unfold unlB; rw [hI2]; cases hA9 : anyB (mk25 P pts one) k.toNat <;> cases hB9 : anyB (mk25 P pts oth) k.toNat <;> simp_all [bI]) dX3_unlike_122
  · skip
    have hb1 := hB (k * pts + one)
    have hb2 := hB (k * pts + oth)
    refine z_cut (σ := Array Slot) (fun zq => F0 m 37 (zq) [.int (zI (bI (mk25 P pts one k)))]) (fun zq => (True) ∧ lv_has (zq) 8 [(0, .ref pg), (1, .int (zI (one))), (2, .int (zI (oth))), (3, .int (zI (bI (anyB (mk25 P pts one) k.toNat)))), (4, .int (zI (bI (anyB (mk25 P pts oth) k.toNat)))), (5, .int (zI (k)))]) ?_ ?_
    · intro ls hq
      obtain ⟨hJ, hl⟩ := hq
      try dsimp only at hJ hl ⊢
      refine lv_istore (lv' := [(6, .int (zI (bI (mk25 P pts one k)))), (0, .ref pg), (1, .int (zI (one))), (2, .int (zI (oth))), (3, .int (zI (bI (anyB (mk25 P pts one) k.toNat)))), (4, .int (zI (bI (anyB (mk25 P pts oth) k.toNat)))), (5, .int (zI (k)))]) hx hb dX3_unlike_37 hl (by decide) rfl (fun ls hl => ?_)
      refine z_cut (σ := Array Slot) (fun zq => F0 m 56 (zq) [.int (zI (bI (mk25 P pts oth k)))]) (fun zq => (True) ∧ lv_has (zq) 8 [(6, .int (zI (bI (mk25 P pts one k)))), (0, .ref pg), (1, .int (zI (one))), (2, .int (zI (oth))), (3, .int (zI (bI (anyB (mk25 P pts one) k.toNat)))), (4, .int (zI (bI (anyB (mk25 P pts oth) k.toNat)))), (5, .int (zI (k)))]) ?_ ?_
      · intro ls hq
        obtain ⟨hJ, hl⟩ := hq
        try dsimp only at hJ hl ⊢
        refine lv_istore (lv' := [(7, .int (zI (bI (mk25 P pts oth k)))), (6, .int (zI (bI (mk25 P pts one k)))), (0, .ref pg), (1, .int (zI (one))), (2, .int (zI (oth))), (3, .int (zI (bI (anyB (mk25 P pts one) k.toNat)))), (4, .int (zI (bI (anyB (mk25 P pts oth) k.toNat)))), (5, .int (zI (k)))]) hx hb dX3_unlike_56 hl (by decide) rfl (fun ls hl => ?_)
        have h6 := bI_01 (mk25 P pts one k)
        have h7 := bI_01 (mk25 P pts oth k)
        refine z_cut (σ := Array Slot) (fun zq => F0 m 70 (zq) []) (fun zq => ((mk25 P pts one k && mk25 P pts oth k) = false) ∧ lv_has (zq) 8 [(7, .int (zI (bI (mk25 P pts oth k)))), (6, .int (zI (bI (mk25 P pts one k)))), (0, .ref pg), (1, .int (zI (one))), (2, .int (zI (oth))), (3, .int (zI (bI (anyB (mk25 P pts one) k.toNat)))), (4, .int (zI (bI (anyB (mk25 P pts oth) k.toNat)))), (5, .int (zI (k)))]) ?_ ?_
        · intro ls hq
          obtain ⟨hJ70, hl⟩ := hq
          try dsimp only at hJ70 hl ⊢
          have h3 := bI_01 (anyB (mk25 P pts one) k.toNat)
          have h4 := bI_01 (anyB (mk25 P pts oth) k.toNat)
          refine z_cut (σ := Array Slot) (fun zq => F0 m 84 (zq) [.int (zI (bI (anyB (mk25 P pts one) (k + 1).toNat)))]) (fun zq => (True) ∧ lv_has (zq) 8 [(7, .int (zI (bI (mk25 P pts oth k)))), (6, .int (zI (bI (mk25 P pts one k)))), (0, .ref pg), (1, .int (zI (one))), (2, .int (zI (oth))), (3, .int (zI (bI (anyB (mk25 P pts one) k.toNat)))), (4, .int (zI (bI (anyB (mk25 P pts oth) k.toNat)))), (5, .int (zI (k)))]) ?_ ?_
          · intro ls hq
            obtain ⟨hJ, hl⟩ := hq
            try dsimp only at hJ hl ⊢
            refine lv_istore_n (lv' := [(3, .int (zI (bI (anyB (mk25 P pts one) (k + 1).toNat)))), (7, .int (zI (bI (mk25 P pts oth k)))), (6, .int (zI (bI (mk25 P pts one k)))), (0, .ref pg), (1, .int (zI (one))), (2, .int (zI (oth))), (4, .int (zI (bI (anyB (mk25 P pts oth) k.toNat)))), (5, .int (zI (k)))]) hx hb dX3_unlike_84 rfl hl (by decide) rfl (fun ls hl => ?_)
            refine z_cut (σ := Array Slot) (fun zq => F0 m 100 (zq) [.int (zI (bI (anyB (mk25 P pts oth) (k + 1).toNat)))]) (fun zq => (True) ∧ lv_has (zq) 8 [(3, .int (zI (bI (anyB (mk25 P pts one) (k + 1).toNat)))), (7, .int (zI (bI (mk25 P pts oth k)))), (6, .int (zI (bI (mk25 P pts one k)))), (0, .ref pg), (1, .int (zI (one))), (2, .int (zI (oth))), (4, .int (zI (bI (anyB (mk25 P pts oth) k.toNat)))), (5, .int (zI (k)))]) ?_ ?_
            · intro ls hq
              obtain ⟨hJ, hl⟩ := hq
              try dsimp only at hJ hl ⊢
              refine lv_istore (lv' := [(4, .int (zI (bI (anyB (mk25 P pts oth) (k + 1).toNat)))), (3, .int (zI (bI (anyB (mk25 P pts one) (k + 1).toNat)))), (7, .int (zI (bI (mk25 P pts oth k)))), (6, .int (zI (bI (mk25 P pts one k)))), (0, .ref pg), (1, .int (zI (one))), (2, .int (zI (oth))), (5, .int (zI (k)))]) hx hb dX3_unlike_100 hl (by decide) rfl (fun ls hl => ?_)
              refine lv_iinc (v := zI (k + (1))) (lv' := [(5, .int (zI (k + (1)))), (4, .int (zI (bI (anyB (mk25 P pts oth) (k + 1).toNat)))), (3, .int (zI (bI (anyB (mk25 P pts one) (k + 1).toNat)))), (7, .int (zI (bI (mk25 P pts oth k)))), (6, .int (zI (bI (mk25 P pts one k)))), (0, .ref pg), (1, .int (zI (one))), (2, .int (zI (oth)))]) hx hb dX3_unlike_102 hl (k := 7) rfl (zI_add _ _) (by decide) rfl (fun ls hl => ?_)
              refine z_goto (tgt := 8) hx hb dX3_unlike_105 (by decide) ?_
              exact ih8 (k + 1, ls) ⟨⟨by omega, by rw [anyB_s _ (by omega), hI2, hJ70]; rfl⟩, lv_sub hl [5, 6, 7, 2, 1, 0] rfl⟩ (by omega)
            intro J100
            refine lv_iload hx hb dX3_unlike_85 (lv_at hl 6 rfl) ?_
            refine z_if_ne (tgt := 95) hx hb dX3_unlike_87 (by decide) (by omega) (fun h87 => ?_) (fun h87 => ?_)
            · skip
              refine z_iconst hx hb dX3_unlike_95 ?_
              refine z_goto (tgt := 100) hx hb dX3_unlike_96 (by decide) ?_
              refine z_top (bI (anyB (mk25 P pts oth) (k + 1).toNat)) (by rw [anyB_s _ (by omega)]; cases hA9 : anyB (mk25 P pts oth) k.toNat <;> cases hB9 : mk25 P pts oth k <;> simp_all [bI]) ?_
              exact J100 (ls) ⟨trivial, lv_sub hl [0, 1, 2, 3, 4, 5, 6, 7] rfl⟩
            · skip
              refine lv_iload hx hb dX3_unlike_90 (lv_at hl 1 rfl) ?_
              refine z_if_eq (tgt := 99) hx hb dX3_unlike_92 (by decide) (by omega) (fun h92 => ?_) (fun h92 => ?_)
              · skip
                refine z_iconst hx hb dX3_unlike_99 ?_
                refine z_top (bI (anyB (mk25 P pts oth) (k + 1).toNat)) (by rw [anyB_s _ (by omega)]; cases hA9 : anyB (mk25 P pts oth) k.toNat <;> cases hB9 : mk25 P pts oth k <;> simp_all [bI]) ?_
                exact J100 (ls) ⟨trivial, lv_sub hl [0, 1, 2, 3, 4, 5, 6, 7] rfl⟩
              · skip
                refine z_iconst hx hb dX3_unlike_95 ?_
                refine z_goto (tgt := 100) hx hb dX3_unlike_96 (by decide) ?_
                refine z_top (bI (anyB (mk25 P pts oth) (k + 1).toNat)) (by rw [anyB_s _ (by omega)]; cases hA9 : anyB (mk25 P pts oth) k.toNat <;> cases hB9 : mk25 P pts oth k <;> simp_all [bI]) ?_
                exact J100 (ls) ⟨trivial, lv_sub hl [0, 1, 2, 3, 4, 5, 6, 7] rfl⟩
          intro J84
          refine lv_iload_n hx hb dX3_unlike_70 rfl (lv_at hl 5 rfl) ?_
          refine z_if_ne (tgt := 79) hx hb dX3_unlike_71 (by decide) (by omega) (fun h71 => ?_) (fun h71 => ?_)
          · skip
            refine z_iconst hx hb dX3_unlike_79 ?_
            refine z_goto (tgt := 84) hx hb dX3_unlike_80 (by decide) ?_
            refine z_top (bI (anyB (mk25 P pts one) (k + 1).toNat)) (by rw [anyB_s _ (by omega)]; cases hA9 : anyB (mk25 P pts one) k.toNat <;> cases hB9 : mk25 P pts one k <;> simp_all [bI]) ?_
            exact J84 (ls) ⟨trivial, lv_sub hl [0, 1, 2, 3, 4, 5, 6, 7] rfl⟩
          · skip
            refine lv_iload hx hb dX3_unlike_74 (lv_at hl 1 rfl) ?_
            refine z_if_eq (tgt := 83) hx hb dX3_unlike_76 (by decide) (by omega) (fun h76 => ?_) (fun h76 => ?_)
            · skip
              refine z_iconst hx hb dX3_unlike_83 ?_
              refine z_top (bI (anyB (mk25 P pts one) (k + 1).toNat)) (by rw [anyB_s _ (by omega)]; cases hA9 : anyB (mk25 P pts one) k.toNat <;> cases hB9 : mk25 P pts one k <;> simp_all [bI]) ?_
              exact J84 (ls) ⟨trivial, lv_sub hl [0, 1, 2, 3, 4, 5, 6, 7] rfl⟩
            · skip
              refine z_iconst hx hb dX3_unlike_79 ?_
              refine z_goto (tgt := 84) hx hb dX3_unlike_80 (by decide) ?_
              refine z_top (bI (anyB (mk25 P pts one) (k + 1).toNat)) (by rw [anyB_s _ (by omega)]; cases hA9 : anyB (mk25 P pts one) k.toNat <;> cases hB9 : mk25 P pts one k <;> simp_all [bI]) ?_
              exact J84 (ls) ⟨trivial, lv_sub hl [0, 1, 2, 3, 4, 5, 6, 7] rfl⟩
        intro J70
        refine lv_iload hx hb dX3_unlike_58 (lv_at hl 1 rfl) ?_
        refine z_if_eq (tgt := 70) hx hb dX3_unlike_60 (by decide) (by omega) (fun h60 => ?_) (fun h60 => ?_)
        · skip
          exact J70 (ls) ⟨by first | (rw [bI_f.mp h60]; rfl) | (rw [bI_f.mp h65]; simp), lv_sub hl [0, 1, 2, 3, 4, 5, 6, 7] rfl⟩
        · skip
          refine lv_iload hx hb dX3_unlike_63 (lv_at hl 0 rfl) ?_
          refine z_if_eq (tgt := 70) hx hb dX3_unlike_65 (by decide) (by omega) (fun h65 => ?_) (fun h65 => ?_)
          · skip
            exact J70 (ls) ⟨by first | (rw [bI_f.mp h60]; rfl) | (rw [bI_f.mp h65]; simp), lv_sub hl [0, 1, 2, 3, 4, 5, 6, 7] rfl⟩
          · skip
            refine z_iconst hx hb dX3_unlike_68 ?_
            exact z_zret hx hb hr hlocks (Or.inl rfl) (by rw [unl_hit (k := k) (by omega) (bI_t.mp h60) (bI_t.mp h65)]; rfl) dX3_unlike_69
      intro J56
      refine lv_aload_n hx hb dX3_unlike_39 rfl (lv_at hl 1 rfl) ?_
      refine lv_iload hx hb dX3_unlike_40 (lv_at hl 6 rfl) ?_
      refine lv_iload_n hx hb dX3_unlike_42 rfl (lv_at hl 3 rfl) ?_
      refine z_callV (q0 := 0) (G := G) (As := [.int (zI (k)), .int (zI (oth))]) (rest := []) hx hb hml hown hT hK (c_X3_byteAt l G pg ik mx co pa w h pts cnt most rch M C P (k) (oth) hp (by omega) (by omega)) kc_X3_38 ⟨Nat.le_of_ble_eq_true rfl, Nat.le_of_ble_eq_true rfl⟩ ⟨rfl, rfl⟩ ⟨Nat.zero_le _, Nat.zero_le _⟩ hP rfl rfl rfl rfl hl.1 rfl (Nat.le_of_ble_eq_true rfl) dX3_unlike_43 ?_
      refine z_bipush hx hb dX3_unlike_46 (by decide +kernel) ?_
      refine z_icmp_lt (tgt := 55) hx hb dX3_unlike_48 (by decide) (by omega) (by omega) (fun h48 => ?_) (fun h48 => ?_)
      · skip
        refine z_iconst hx hb dX3_unlike_55 ?_
        refine z_top (bI (mk25 P pts oth k)) (bI_0 (by omega)) ?_
        exact J56 (ls) ⟨trivial, lv_sub hl [0, 1, 2, 3, 4, 5, 6] rfl⟩
      · skip
        refine z_iconst hx hb dX3_unlike_51 ?_
        refine z_goto (tgt := 56) hx hb dX3_unlike_52 (by decide) ?_
        refine z_top (bI (mk25 P pts oth k)) (bI_1 (by omega)) ?_
        exact J56 (ls) ⟨trivial, lv_sub hl [0, 1, 2, 3, 4, 5, 6] rfl⟩
    intro J37
    refine lv_aload_n hx hb dX3_unlike_20 rfl (lv_at hl 0 rfl) ?_
    refine lv_iload hx hb dX3_unlike_21 (lv_at hl 5 rfl) ?_
    refine lv_iload_n hx hb dX3_unlike_23 rfl (lv_at hl 1 rfl) ?_
    refine z_callV (q0 := 0) (G := G) (As := [.int (zI (k)), .int (zI (one))]) (rest := []) hx hb hml hown hT hK (c_X3_byteAt l G pg ik mx co pa w h pts cnt most rch M C P (k) (one) hp (by omega) (by omega)) kc_X3_38 ⟨Nat.le_of_ble_eq_true rfl, Nat.le_of_ble_eq_true rfl⟩ ⟨rfl, rfl⟩ ⟨Nat.zero_le _, Nat.zero_le _⟩ hP rfl rfl rfl rfl hl.1 rfl (Nat.le_of_ble_eq_true rfl) dX3_unlike_24 ?_
    refine z_bipush hx hb dX3_unlike_27 (by decide +kernel) ?_
    refine z_icmp_lt (tgt := 36) hx hb dX3_unlike_29 (by decide) (by omega) (by omega) (fun h29 => ?_) (fun h29 => ?_)
    · skip
      refine z_iconst hx hb dX3_unlike_36 ?_
      refine z_top (bI (mk25 P pts one k)) (bI_0 (by omega)) ?_
      exact J37 (ls) ⟨trivial, lv_sub hl [0, 1, 2, 3, 4, 5] rfl⟩
    · skip
      refine z_iconst hx hb dX3_unlike_32 ?_
      refine z_goto (tgt := 37) hx hb dX3_unlike_33 (by decide) ?_
      refine z_top (bI (mk25 P pts one k)) (bI_1 (by omega)) ?_
      exact J37 (ls) ⟨trivial, lv_sub hl [0, 1, 2, 3, 4, 5] rfl⟩
end
section
/-! ===== the trap's lender: the best of the points seen so far, and the runs of a plate ===== -/
def inWin (w h rch x y c r : Int) : Prop := (0 ≤ c ∧ c < w) ∧ (0 ≤ r ∧ r < h) ∧ (c - x ≤ rch ∧ x - c ≤ rch) ∧ (r - y ≤ rch ∧ y - r ≤ rch)
def dsq (x y c r : Int) : Int := (c - x) * (c - x) + (r - y) * (r - y)
def bestS (w h rch x y : Int) (cd : Int → Int → Bool) (S : Int → Int → Prop) (b f : Int) : Prop :=
  (b = -1 ∧ ∀ c r, S c r → inWin w h rch x y c r → cd c r = false) ∨
  (∃ c r, S c r ∧ inWin w h rch x y c r ∧ cd c r = true ∧ b = c + w * r ∧ f = dsq x y c r ∧ ∀ c' r', S c' r' → inWin w h rch x y c' r' → cd c' r' = true → dsq x y c r < dsq x y c' r' ∨ (dsq x y c r = dsq x y c' r' ∧ (r < r' ∨ (r = r' ∧ c ≤ c'))))
theorem best_congr {w h rch x y : Int} {cd : Int → Int → Bool} {S S' : Int → Int → Prop} {b f : Int} (hS : ∀ c r, inWin w h rch x y c r → (S c r ↔ S' c r)) (hb : bestS w h rch x y cd S b f) : bestS w h rch x y cd S' b f := by
  rcases hb with ⟨h1, h2⟩ | ⟨c, r, h1, h2, h3, h4, h5, h6⟩
  · exact Or.inl ⟨h1, fun c r hs hw => h2 c r ((hS c r hw).mpr hs) hw⟩
  · exact Or.inr ⟨c, r, (hS c r h2).mp h1, h2, h3, h4, h5, fun c' r' hs hw => h6 c' r' ((hS c' r' hw).mpr hs) hw⟩
theorem best_0 {w h rch x y : Int} {cd : Int → Int → Bool} {S : Int → Int → Prop} {f : Int} (hS : ∀ c r, inWin w h rch x y c r → ¬ S c r) : bestS w h rch x y cd S (-1) f := Or.inl ⟨rfl, fun c r hs hw => absurd hs (hS c r hw)⟩
theorem best_take {w h rch x y : Int} {cd : Int → Int → Bool} {b f c0 r0 : Int} (hb : bestS w h rch x y cd (fun c r => r < r0 ∨ (r = r0 ∧ c < c0)) b f) (hw : inWin w h rch x y c0 r0) (hc : cd c0 r0 = true) (hf : b = -1 ∨ dsq x y c0 r0 < f) : bestS w h rch x y cd (fun c r => r < r0 ∨ (r = r0 ∧ c < c0 + 1)) (c0 + w * r0) (dsq x y c0 r0) := by
  refine Or.inr ⟨c0, r0, Or.inr ⟨rfl, by omega⟩, hw, hc, rfl, rfl, ?_⟩
  intro c' r' hs hw' hc'
  by_cases q : r' = r0 ∧ c' = c0
  · obtain ⟨rfl, rfl⟩ := q
    exact Or.inr ⟨rfl, Or.inr ⟨rfl, Int.le_refl _⟩⟩
  · have hs' : r' < r0 ∨ (r' = r0 ∧ c' < c0) := by
      rcases hs with h | h
      · exact Or.inl h
      · exact Or.inr ⟨h.1, by omega⟩
    rcases hb with ⟨h1, h2⟩ | ⟨c, r, h1, h2, h3, h4, h5, h6⟩
    · rw [h2 c' r' hs' hw'] at hc'; cases hc'
    · have hne : b ≠ -1 := by
        have := Int.mul_nonneg (a := w) (b := r) (by have := hw.1; omega) h2.2.1.1
        have := h2.1
        omega
      have h7 := h6 c' r' hs' hw' hc'
      rcases hf with hf | hf
      · exact absurd hf hne
      · exact Or.inl (by omega)
theorem best_skip {w h rch x y : Int} {cd : Int → Int → Bool} {b f c0 r0 : Int} (hb : bestS w h rch x y cd (fun c r => r < r0 ∨ (r = r0 ∧ c < c0)) b f) (hk : (inWin w h rch x y c0 r0 → cd c0 r0 = false) ∨ (b ≠ -1 ∧ f ≤ dsq x y c0 r0)) : bestS w h rch x y cd (fun c r => r < r0 ∨ (r = r0 ∧ c < c0 + 1)) b f := by
  rcases hb with ⟨h1, h2⟩ | ⟨c, r, h1, h2, h3, h4, h5, h6⟩
  · refine Or.inl ⟨h1, fun c' r' hs hw' => ?_⟩
    by_cases q : r' = r0 ∧ c' = c0
    · obtain ⟨rfl, rfl⟩ := q
      rcases hk with hk | hk
      · exact hk hw'
      · exact absurd h1 hk.1
    · exact h2 c' r' (by rcases hs with h | h
                         · exact Or.inl h
                         · exact Or.inr ⟨h.1, by omega⟩) hw'
  · refine Or.inr ⟨c, r, by rcases h1 with h | h
                            · exact Or.inl h
                            · exact Or.inr ⟨h.1, by omega⟩, h2, h3, h4, h5, fun c' r' hs hw' hc' => ?_⟩
    by_cases q : r' = r0 ∧ c' = c0
    · obtain ⟨rfl, rfl⟩ := q
      rcases hk with hk | hk
      · rw [hk hw'] at hc'; cases hc'
      · rw [h5] at hk
        by_cases q2 : dsq x y c r = dsq x y c' r'
        · exact Or.inr ⟨q2, by omega⟩
        · exact Or.inl (by omega)
    · exact h6 c' r' (by rcases hs with h | h
                         · exact Or.inl h
                         · exact Or.inr ⟨h.1, by omega⟩) hw' hc'
theorem best_uniq {w h rch x y : Int} {cd : Int → Int → Bool} {b f b' f' : Int} (h1 : bestS w h rch x y cd (fun _ _ => True) b f) (h2 : bestS w h rch x y cd (fun _ _ => True) b' f') : b = b' := by
  rcases h1 with ⟨h1, h1'⟩ | ⟨c, r, -, k2, k3, k4, k5, k6⟩ <;> rcases h2 with ⟨h2, h2'⟩ | ⟨c', r', -, l2, l3, l4, l5, l6⟩
  · omega
  · rw [h1' c' r' trivial l2] at l3; cases l3
  · rw [h2' c r trivial k2] at k3; cases k3
  · have a1 := k6 c' r' trivial l2 l3
    have a2 := l6 c r trivial k2 k3
    have e1 : r = r' := by omega
    have e2 : c = c' := by omega
    rw [k4, l4, e1, e2]
noncomputable def lendV (w h rch x y : Int) (cd : Int → Int → Bool) : Int := Classical.epsilon (fun b : Int => ∃ f : Int, bestS w h rch x y cd (fun _ _ => True) b f)
theorem lend_eq {w h rch x y : Int} {cd : Int → Int → Bool} {b f : Int} (h1 : bestS w h rch x y cd (fun _ _ => True) b f) : b = lendV w h rch x y cd := by
  obtain ⟨f', h2⟩ := Classical.epsilon_spec (p := fun b : Int => ∃ f : Int, bestS w h rch x y cd (fun _ _ => True) b f) ⟨b, f, h1⟩
  exact best_uniq h1 h2
theorem lend_b {w h rch x y : Int} {cd : Int → Int → Bool} {b f : Int} (hw : 1 ≤ w) (hh : 1 ≤ h) (h1 : bestS w h rch x y cd (fun _ _ => True) b f) : -1 ≤ b ∧ b < w * h := by
  rcases h1 with ⟨h1, -⟩ | ⟨c, r, -, k2, -, k4, -⟩
  · have := Int.mul_nonneg (a := w) (b := h) (by omega) (by omega); omega
  · have h2 := k2.1; have h3 := k2.2.1
    have h4 := Int.mul_nonneg (a := w) (b := r) (by omega) h3.1
    have h5 := Int.mul_le_mul_of_nonneg_left (a := r + 1) (b := h) (c := w) (by omega) (by omega)
    rw [Int.mul_add, Int.mul_one] at h5
    omega
theorem pt_b {w h x y : Int} (hx : 0 ≤ x ∧ x < w) (hy : 0 ≤ y ∧ y < h) : 0 ≤ x + w * y ∧ x + w * y < w * h := by
  have h4 := Int.mul_nonneg (a := w) (b := y) (by omega) hy.1
  have h5 := Int.mul_le_mul_of_nonneg_left (a := y + 1) (b := h) (c := w) (by omega) (by omega)
  rw [Int.mul_add, Int.mul_one] at h5
  omega
theorem sq_b {a : Int} (h : -16 ≤ a ∧ a ≤ 16) : 0 ≤ a * a ∧ a * a ≤ 256 := by
  by_cases q : 0 ≤ a
  · have := mul_b (a := a) (b := a) (A := 16) (B := 16) (by omega) (by omega); omega
  · have := mul_b (a := -a) (b := -a) (A := 16) (B := 16) (by omega) (by omega)
    rw [Int.neg_mul_neg] at this; omega
theorem dsq_b {x y c r : Int} (h1 : -16 ≤ c - x ∧ c - x ≤ 16) (h2 : -16 ≤ r - y ∧ r - y ≤ 16) : 0 ≤ dsq x y c r ∧ dsq x y c r ≤ 512 := by
  have a := sq_b h1; have b := sq_b h2
  unfold dsq; omega
def cdB (M P : Int → Int) (pts cnt w p c r : Int) : Bool := unlB P pts cnt p (c + w * r) && decide (lightV M P pts cnt p < lightV M P pts cnt (c + w * r))
theorem sk_far {b f ds D : Int} {A : Prop} (h : f ≤ ds) (hds : ds = D) (hd : D ≤ 512) (hr : b = -1 → f = 2147483647) : A ∨ (b ≠ -1 ∧ f ≤ D) := Or.inr ⟨fun q => by have := hr q; omega, by omega⟩
theorem sk_unl {M P : Int → Int} {pts cnt w p c r : Int} {A B : Prop} (h : bI (unlB P pts cnt p (c + w * r)) = 0) : (A → cdB M P pts cnt w p c r = false) ∨ B := Or.inl (fun _ => by unfold cdB; rw [bI_f.mp h]; rfl)
theorem sk_lit {M P : Int → Int} {pts cnt w p c r : Int} {A B : Prop} (h : lightV M P pts cnt (c + w * r) ≤ lightV M P pts cnt p) : (A → cdB M P pts cnt w p c r = false) ∨ B := Or.inl (fun _ => by unfold cdB; rw [decide_eq_false (by omega)]; simp)
theorem lightV_b {M P : Int → Int} (hM : ∀ j, 0 ≤ M j ∧ M j ≤ 255) (hB : ∀ j, 0 ≤ P j ∧ P j ≤ 255) (pts cnt p : Int) : 0 ≤ lightV M P pts cnt p ∧ lightV M P pts cnt p ≤ 255 := by
  have h0 := bandV_b hM hB pts cnt 0 p (-1); have h1 := bandV_b hM hB pts cnt 1 p (-1); have h2 := bandV_b hM hB pts cnt 2 p (-1)
  unfold lightV; omega

set_option maxHeartbeats 4000000 in
set_option maxRecDepth 100000 in
theorem c_X3_lenderOf (l : Launch) (G : zG) (pg ik mx co pa : Nat) (w h pts cnt most rch : Int) (M C P : Int → Int) (x y : Int) (hp : pgOK w h pts cnt most rch M C P) (hxx : 0 ≤ x ∧ x < w) (hyy : 0 ≤ y ∧ y < h) : zRd l yX3_lenderOf cX3_lenderOf 11 (some .int) { frames := 4, cells := 0, slots := 0, locals := 93 } G [.ref pg, .int (zI (x)), .int (zI (y))] (pgL G pg ik mx co pa w h pts cnt most rch M C P) (lendV w h rch x y (cdB M P pts cnt w (x + w * y))) := by
  refine Met.ofW (cc := cX3_lenderOf) (maxL := 11) (ret := (some .int)) (by decide) rfl ?_
  intro p e s m args below meth c s₁ B hml hv
  obtain ⟨rfl, hP, hK⟩ := hv
  have hx := B.exec
  have hb := B.bytes
  have hr := B.returns
  have hT : ∀ w ∈ TB, w.before _ s = true := fun w h => atoms_spec (ws := Cond.code yX3_lenderOf cX3_lenderOf 11 (some .int) :: TB) B.pre w (List.mem_cons_of_mem _ h)
  have hown : s.vm.findClass RX3 = some m.cls := findClass_of_methodNamed B.named
  have hlocks := B.notSynchronized
  have hl := lv_entry ([.ref pg, .int (zI (x)), .int (zI (y))]) (n := 11) (Nat.le_of_ble_eq_true rfl)
  rw [lg_entry_eq]
  generalize (lg_sl ([.ref pg, .int (zI (x)), .int (zI (y))]) ++ List.replicate (11 - (lg_sl ([.ref pg, .int (zI (x)), .int (zI (y))])).length) Slot.unset).toArray = ls at hl ⊢
  have hl : lv_has ls 11 [(0, .ref pg), (1, .int (zI (x))), (2, .int (zI (y)))] := hl
  obtain ⟨hw, hh, hpts, hcnt, hmost, hrch, hM, hC, hB⟩ := id hp
  have hpt := pgOK_pts hp
  have hpq := pt_b hxx hyy
  have hlt := lightV_b hM hB pts cnt
  refine lv_iload_n hx hb dX3_lenderOf_0 rfl (lv_at hl 1 rfl) ?_
  refine lv_aload_n hx hb dX3_lenderOf_1 rfl (lv_at hl 0 rfl) ?_
  refine gf_X3_25 hx hb hT hown hK hP 0 rfl rfl dX3_lenderOf_2 ?_
  refine lv_iload_n hx hb dX3_lenderOf_5 rfl (lv_at hl 2 rfl) ?_
  refine z_imul hx hb dX3_lenderOf_6 ?_
  refine z_iadd hx hb dX3_lenderOf_7 ?_
  refine lv_istore_n (lv' := [(3, .int (zI ((x + (w * y))))), (0, .ref pg), (1, .int (zI (x))), (2, .int (zI (y)))]) hx hb dX3_lenderOf_8 rfl hl (by decide) rfl (fun ls hl => ?_)
  refine lv_aload_n hx hb dX3_lenderOf_9 rfl (lv_at hl 1 rfl) ?_
  refine lv_iload_n hx hb dX3_lenderOf_10 rfl (lv_at hl 0 rfl) ?_
  refine z_callV (q0 := 0) (G := G) (As := [.int (zI ((x + (w * y))))]) (rest := []) hx hb hml hown hT hK (c_X3_lightness l G pg ik mx co pa w h pts cnt most rch M C P ((x + (w * y))) hp (by omega)) kc_X3_79 ⟨Nat.le_of_ble_eq_true rfl, Nat.le_of_ble_eq_true rfl⟩ ⟨rfl, rfl⟩ ⟨Nat.zero_le _, Nat.zero_le _⟩ hP rfl rfl rfl rfl hl.1 rfl (Nat.le_of_ble_eq_true rfl) dX3_lenderOf_11 ?_
  have hl1 := hlt (x + w * y)
  refine lv_istore (lv' := [(4, .int (zI ((lightV M P pts cnt (x + (w * y)))))), (3, .int (zI ((x + (w * y))))), (0, .ref pg), (1, .int (zI (x))), (2, .int (zI (y)))]) hx hb dX3_lenderOf_14 hl (by decide) rfl (fun ls hl => ?_)
  refine z_iconst hx hb dX3_lenderOf_16 ?_
  refine lv_istore (lv' := [(5, .int (zI ((-1)))), (4, .int (zI ((lightV M P pts cnt (x + (w * y)))))), (3, .int (zI ((x + (w * y))))), (0, .ref pg), (1, .int (zI (x))), (2, .int (zI (y)))]) hx hb dX3_lenderOf_17 hl (by decide) rfl (fun ls hl => ?_)
  refine lv_ldc (v := zI (2147483647)) hx hb hown (hT _ (mT 351 (by decide +kernel) rfl)) dX3_lenderOf_19 ?_
  refine lv_istore (lv' := [(6, .int (zI ((2147483647)))), (5, .int (zI ((-1)))), (4, .int (zI ((lightV M P pts cnt (x + (w * y)))))), (3, .int (zI ((x + (w * y))))), (0, .ref pg), (1, .int (zI (x))), (2, .int (zI (y)))]) hx hb dX3_lenderOf_21 hl (by decide) rfl (fun ls hl => ?_)
  refine z_iconst hx hb dX3_lenderOf_23 ?_
  refine lv_iload_n hx hb dX3_lenderOf_24 rfl (lv_at hl 6 rfl) ?_
  refine lv_aload_n hx hb dX3_lenderOf_25 rfl (lv_at hl 4 rfl) ?_
  refine gf_X3_22 hx hb hT hown hK hP 0 rfl rfl dX3_lenderOf_26 ?_
  refine z_isub hx hb dX3_lenderOf_29 ?_
  refine z_mmax hx hb hml hl.1 hown hT kc_X3_42 ⟨Nat.le_of_ble_eq_true rfl, Nat.le_of_ble_eq_true rfl⟩ ⟨Nat.zero_le _, Nat.zero_le _⟩ (by omega) (by omega) dX3_lenderOf_30 ?_
  refine lv_istore (lv' := [(7, .int (zI ((max 0 (y - rch))))), (6, .int (zI ((2147483647)))), (5, .int (zI ((-1)))), (4, .int (zI ((lightV M P pts cnt (x + (w * y)))))), (3, .int (zI ((x + (w * y))))), (0, .ref pg), (1, .int (zI (x))), (2, .int (zI (y)))]) hx hb dX3_lenderOf_33 hl (by decide) rfl (fun ls hl => ?_)
  refine z_loop (σ := Int × Int × Int × Array Slot) (fun zq => F0 m 35 (zq.2.2.2) []) (fun zq => ((max 0 (y - rch) ≤ zq.1 ∧ zq.1 ≤ h) ∧ ((-1 ≤ zq.2.1 ∧ zq.2.1 ≤ 100000) ∧ (0 ≤ zq.2.2.1 ∧ zq.2.2.1 ≤ 2147483647) ∧ (zq.2.1 = -1 → zq.2.2.1 = 2147483647)) ∧ bestS w h rch x y (cdB M P pts cnt w (x + w * y)) (fun c r => r < zq.1) zq.2.1 zq.2.2.1) ∧ lv_has (zq.2.2.2) 11 [(0, .ref pg), (1, .int (zI (x))), (2, .int (zI (y))), (3, .int (zI ((x + (w * y))))), (4, .int (zI ((lightV M P pts cnt (x + (w * y)))))), (5, .int (zI (zq.2.1))), (6, .int (zI (zq.2.2.1))), (7, .int (zI (zq.1)))]) (fun zq => (h - zq.1).toNat) ?_ ((max 0 (y - rch)), (-1), 2147483647, ls) ⟨⟨by dsimp only; omega, by dsimp only; omega, best_0 (fun c r hw9 hs9 => by unfold inWin at hw9; omega)⟩, lv_sub hl [5, 6, 7, 4, 3, 2, 1, 0] rfl⟩
  intro zq hq ih
  obtain ⟨row, b0, f0, ls⟩ := zq
  obtain ⟨⟨hI, hRn, hBs⟩, hl⟩ := hq
  try dsimp only at hI hRn hBs hl ih ⊢
  have ih35 := ih
  refine lv_iload hx hb dX3_lenderOf_35 (lv_at hl 7 rfl) ?_
  refine lv_aload_n hx hb dX3_lenderOf_37 rfl (lv_at hl 0 rfl) ?_
  refine gf_X3_28 hx hb hT hown hK hP 0 rfl rfl dX3_lenderOf_38 ?_
  refine z_iconst hx hb dX3_lenderOf_41 ?_
  refine z_isub hx hb dX3_lenderOf_42 ?_
  refine lv_iload_n hx hb dX3_lenderOf_43 rfl (lv_at hl 2 rfl) ?_
  refine lv_aload_n hx hb dX3_lenderOf_44 rfl (lv_at hl 0 rfl) ?_
  refine gf_X3_22 hx hb hT hown hK hP 0 rfl rfl dX3_lenderOf_45 ?_
  refine z_iadd hx hb dX3_lenderOf_48 ?_
  refine z_mmin hx hb hml hl.1 hown hT kc_X3_65 ⟨Nat.le_of_ble_eq_true rfl, Nat.le_of_ble_eq_true rfl⟩ ⟨Nat.zero_le _, Nat.zero_le _⟩ (by omega) (by omega) dX3_lenderOf_49 ?_
  refine z_icmp_gt (tgt := 168) hx hb dX3_lenderOf_52 (by decide) (by omega) (by omega) (fun h52 => ?_) (fun h52 => ?_)
  · skip
    refine lv_iload hx hb dX3_lenderOf_168 (lv_at hl 5 rfl) ?_
    exact z_iret hx hb hr hlocks (lend_eq (best_congr (fun c r hw9 => by unfold inWin at hw9; constructor <;> intro h9 <;> first | trivial | omega) hBs)) dX3_lenderOf_170
  · skip
    refine z_iconst hx hb dX3_lenderOf_55 ?_
    refine lv_iload_n hx hb dX3_lenderOf_56 rfl (lv_at hl 1 rfl) ?_
    refine lv_aload_n hx hb dX3_lenderOf_57 rfl (lv_at hl 0 rfl) ?_
    refine gf_X3_22 hx hb hT hown hK hP 0 rfl rfl dX3_lenderOf_58 ?_
    refine z_isub hx hb dX3_lenderOf_61 ?_
    refine z_mmax hx hb hml hl.1 hown hT kc_X3_42 ⟨Nat.le_of_ble_eq_true rfl, Nat.le_of_ble_eq_true rfl⟩ ⟨Nat.zero_le _, Nat.zero_le _⟩ (by omega) (by omega) dX3_lenderOf_62 ?_
    refine lv_istore (lv' := [(8, .int (zI ((max 0 (x - rch))))), (0, .ref pg), (1, .int (zI (x))), (2, .int (zI (y))), (3, .int (zI ((x + (w * y))))), (4, .int (zI ((lightV M P pts cnt (x + (w * y)))))), (5, .int (zI (b0))), (6, .int (zI (f0))), (7, .int (zI (row)))]) hx hb dX3_lenderOf_65 hl (by decide) rfl (fun ls hl => ?_)
    refine z_loop (σ := Int × Int × Int × Array Slot) (fun zq => F0 m 67 (zq.2.2.2) []) (fun zq => ((max 0 (x - rch) ≤ zq.1 ∧ zq.1 ≤ w) ∧ ((-1 ≤ zq.2.1 ∧ zq.2.1 ≤ 100000) ∧ (0 ≤ zq.2.2.1 ∧ zq.2.2.1 ≤ 2147483647) ∧ (zq.2.1 = -1 → zq.2.2.1 = 2147483647)) ∧ bestS w h rch x y (cdB M P pts cnt w (x + w * y)) (fun c r => r < row ∨ (r = row ∧ c < zq.1)) zq.2.1 zq.2.2.1) ∧ lv_has (zq.2.2.2) 11 [(0, .ref pg), (1, .int (zI (x))), (2, .int (zI (y))), (3, .int (zI ((x + (w * y))))), (4, .int (zI ((lightV M P pts cnt (x + (w * y)))))), (5, .int (zI (zq.2.1))), (6, .int (zI (zq.2.2.1))), (7, .int (zI (row))), (8, .int (zI (zq.1)))]) (fun zq => (w - zq.1).toNat) ?_ ((max 0 (x - rch)), b0, f0, ls) ⟨⟨by dsimp only; omega, hRn, best_congr (fun c r hw9 => by unfold inWin at hw9; constructor <;> intro h9 <;> omega) hBs⟩, lv_sub hl [1, 2, 3, 4, 5, 6, 7, 8, 0] rfl⟩
    intro zq hq ih
    obtain ⟨col, b1, f1, ls⟩ := zq
    obtain ⟨⟨hI1, hRn, hBs⟩, hl⟩ := hq
    try dsimp only at hI1 hRn hBs hl ih ⊢
    have ih67 := ih
    refine lv_iload hx hb dX3_lenderOf_67 (lv_at hl 8 rfl) ?_
    refine lv_aload_n hx hb dX3_lenderOf_69 rfl (lv_at hl 0 rfl) ?_
    refine gf_X3_25 hx hb hT hown hK hP 0 rfl rfl dX3_lenderOf_70 ?_
    refine z_iconst hx hb dX3_lenderOf_73 ?_
    refine z_isub hx hb dX3_lenderOf_74 ?_
    refine lv_iload_n hx hb dX3_lenderOf_75 rfl (lv_at hl 1 rfl) ?_
    refine lv_aload_n hx hb dX3_lenderOf_76 rfl (lv_at hl 0 rfl) ?_
    refine gf_X3_22 hx hb hT hown hK hP 0 rfl rfl dX3_lenderOf_77 ?_
    refine z_iadd hx hb dX3_lenderOf_80 ?_
    refine z_mmin hx hb hml hl.1 hown hT kc_X3_65 ⟨Nat.le_of_ble_eq_true rfl, Nat.le_of_ble_eq_true rfl⟩ ⟨Nat.zero_le _, Nat.zero_le _⟩ (by omega) (by omega) dX3_lenderOf_81 ?_
    refine z_icmp_gt (tgt := 162) hx hb dX3_lenderOf_84 (by decide) (by omega) (by omega) (fun h84 => ?_) (fun h84 => ?_)
    · skip
      refine lv_iinc (v := zI (row + (1))) (lv' := [(7, .int (zI (row + (1)))), (0, .ref pg), (1, .int (zI (x))), (2, .int (zI (y))), (3, .int (zI ((x + (w * y))))), (4, .int (zI ((lightV M P pts cnt (x + (w * y)))))), (5, .int (zI (b1))), (6, .int (zI (f1))), (8, .int (zI (col)))]) hx hb dX3_lenderOf_162 hl (k := 7) rfl (zI_add _ _) (by decide) rfl (fun ls hl => ?_)
      refine z_goto (tgt := 35) hx hb dX3_lenderOf_165 (by decide) ?_
      exact ih35 (row + (1), b1, f1, ls) ⟨⟨by dsimp only; omega, hRn, best_congr (fun c r hw9 => by unfold inWin at hw9; constructor <;> intro h9 <;> omega) hBs⟩, lv_sub hl [1, 2, 3, 4, 5, 6, 7, 0] rfl⟩ (by omega)
    · skip
      have hpc := pt_b (w := w) (h := h) (x := col) (y := row) (by omega) (by omega)
      have hwin : inWin w h rch x y col row := by unfold inWin; omega
      have hdb := dsq_b (x := x) (y := y) (c := col) (r := row) (by omega) (by omega)
      obtain ⟨ds, hds⟩ : ∃ z : Int, z = dsq x y col row := ⟨_, rfl⟩
      have hl2 := hlt (col + w * row)
      refine lv_iload hx hb dX3_lenderOf_87 (lv_at hl 8 rfl) ?_
      refine lv_aload_n hx hb dX3_lenderOf_89 rfl (lv_at hl 0 rfl) ?_
      refine gf_X3_25 hx hb hT hown hK hP 0 rfl rfl dX3_lenderOf_90 ?_
      refine lv_iload hx hb dX3_lenderOf_93 (lv_at hl 7 rfl) ?_
      refine z_imul hx hb dX3_lenderOf_95 ?_
      refine z_iadd hx hb dX3_lenderOf_96 ?_
      refine lv_istore (lv' := [(9, .int (zI ((col + (w * row))))), (0, .ref pg), (1, .int (zI (x))), (2, .int (zI (y))), (3, .int (zI ((x + (w * y))))), (4, .int (zI ((lightV M P pts cnt (x + (w * y)))))), (5, .int (zI (b1))), (6, .int (zI (f1))), (7, .int (zI (row))), (8, .int (zI (col)))]) hx hb dX3_lenderOf_97 hl (by decide) rfl (fun ls hl => ?_)
      refine lv_iload hx hb dX3_lenderOf_99 (lv_at hl 9 rfl) ?_
      refine lv_iload_n hx hb dX3_lenderOf_101 rfl (lv_at hl 2 rfl) ?_
      refine z_isub hx hb dX3_lenderOf_102 ?_
      refine lv_iload hx hb dX3_lenderOf_103 (lv_at hl 9 rfl) ?_
      refine lv_iload_n hx hb dX3_lenderOf_105 rfl (lv_at hl 2 rfl) ?_
      refine z_isub hx hb dX3_lenderOf_106 ?_
      refine z_imul hx hb dX3_lenderOf_107 ?_
      refine lv_iload hx hb dX3_lenderOf_108 (lv_at hl 8 rfl) ?_
      refine lv_iload_n hx hb dX3_lenderOf_110 rfl (lv_at hl 3 rfl) ?_
      refine z_isub hx hb dX3_lenderOf_111 ?_
      refine lv_iload hx hb dX3_lenderOf_112 (lv_at hl 8 rfl) ?_
      refine lv_iload_n hx hb dX3_lenderOf_114 rfl (lv_at hl 3 rfl) ?_
      refine z_isub hx hb dX3_lenderOf_115 ?_
      refine z_imul hx hb dX3_lenderOf_116 ?_
      refine z_iadd hx hb dX3_lenderOf_117 ?_
      refine z_top (ds) (hds.symm) ?_
      refine lv_istore (lv' := [(10, .int (zI (ds))), (9, .int (zI ((col + (w * row))))), (0, .ref pg), (1, .int (zI (x))), (2, .int (zI (y))), (3, .int (zI ((x + (w * y))))), (4, .int (zI ((lightV M P pts cnt (x + (w * y)))))), (5, .int (zI (b1))), (6, .int (zI (f1))), (7, .int (zI (row))), (8, .int (zI (col)))]) hx hb dX3_lenderOf_118 hl (by decide) rfl (fun ls hl => ?_)
      refine lv_iload hx hb dX3_lenderOf_120 (lv_at hl 0 rfl) ?_
      refine lv_iload hx hb dX3_lenderOf_122 (lv_at hl 8 rfl) ?_
      refine z_icmp_ge (tgt := 156) hx hb dX3_lenderOf_124 (by decide) (by omega) (by omega) (fun h124 => ?_) (fun h124 => ?_)
      · skip
        refine lv_iinc (v := zI (col + (1))) (lv' := [(8, .int (zI (col + (1)))), (10, .int (zI (ds))), (9, .int (zI ((col + (w * row))))), (0, .ref pg), (1, .int (zI (x))), (2, .int (zI (y))), (3, .int (zI ((x + (w * y))))), (4, .int (zI ((lightV M P pts cnt (x + (w * y)))))), (5, .int (zI (b1))), (6, .int (zI (f1))), (7, .int (zI (row)))]) hx hb dX3_lenderOf_156 hl (k := 10) rfl (zI_add _ _) (by decide) rfl (fun ls hl => ?_)
        refine z_goto (tgt := 67) hx hb dX3_lenderOf_159 (by decide) ?_
        exact ih67 (col + (1), b1, f1, ls) ⟨⟨by dsimp only; omega, hRn, best_skip hBs (by first | exact sk_far h124 hds hdb.2 hRn.2.2 | exact sk_unl h134 | exact sk_lit h145)⟩, lv_sub hl [3, 4, 5, 6, 7, 8, 9, 10, 0] rfl⟩ (by omega)
      · skip
        refine lv_aload_n hx hb dX3_lenderOf_127 rfl (lv_at hl 2 rfl) ?_
        refine lv_iload_n hx hb dX3_lenderOf_128 rfl (lv_at hl 5 rfl) ?_
        refine lv_iload hx hb dX3_lenderOf_129 (lv_at hl 1 rfl) ?_
        refine z_callV (q0 := 0) (G := G) (As := [.int (zI ((x + (w * y)))), .int (zI ((col + (w * row))))]) (rest := []) hx hb hml hown hT hK (c_X3_unlike l G pg ik mx co pa w h pts cnt most rch M C P ((x + (w * y))) ((col + (w * row))) hp (by omega) (by omega)) kc_X3_85 ⟨Nat.le_of_ble_eq_true rfl, Nat.le_of_ble_eq_true rfl⟩ ⟨rfl, rfl⟩ ⟨Nat.zero_le _, Nat.zero_le _⟩ hP rfl rfl rfl rfl hl.1 rfl (Nat.le_of_ble_eq_true rfl) dX3_lenderOf_131 ?_
        have hu := bI_01 (unlB P pts cnt (x + w * y) (col + w * row))
        refine z_if_eq (tgt := 156) hx hb dX3_lenderOf_134 (by decide) (by omega) (fun h134 => ?_) (fun h134 => ?_)
        · skip
          refine lv_iinc (v := zI (col + (1))) (lv' := [(8, .int (zI (col + (1)))), (10, .int (zI (ds))), (9, .int (zI ((col + (w * row))))), (0, .ref pg), (1, .int (zI (x))), (2, .int (zI (y))), (3, .int (zI ((x + (w * y))))), (4, .int (zI ((lightV M P pts cnt (x + (w * y)))))), (5, .int (zI (b1))), (6, .int (zI (f1))), (7, .int (zI (row)))]) hx hb dX3_lenderOf_156 hl (k := 10) rfl (zI_add _ _) (by decide) rfl (fun ls hl => ?_)
          refine z_goto (tgt := 67) hx hb dX3_lenderOf_159 (by decide) ?_
          exact ih67 (col + (1), b1, f1, ls) ⟨⟨by dsimp only; omega, hRn, best_skip hBs (by first | exact sk_far h124 hds hdb.2 hRn.2.2 | exact sk_unl h134 | exact sk_lit h145)⟩, lv_sub hl [3, 4, 5, 6, 7, 8, 9, 10, 0] rfl⟩ (by omega)
        · skip
          refine lv_aload_n hx hb dX3_lenderOf_137 rfl (lv_at hl 2 rfl) ?_
          refine lv_iload hx hb dX3_lenderOf_138 (lv_at hl 1 rfl) ?_
          refine z_callV (q0 := 0) (G := G) (As := [.int (zI ((col + (w * row))))]) (rest := []) hx hb hml hown hT hK (c_X3_lightness l G pg ik mx co pa w h pts cnt most rch M C P ((col + (w * row))) hp (by omega)) kc_X3_79 ⟨Nat.le_of_ble_eq_true rfl, Nat.le_of_ble_eq_true rfl⟩ ⟨rfl, rfl⟩ ⟨Nat.zero_le _, Nat.zero_le _⟩ hP rfl rfl rfl rfl hl.1 rfl (Nat.le_of_ble_eq_true rfl) dX3_lenderOf_140 ?_
          refine lv_iload hx hb dX3_lenderOf_143 (lv_at hl 6 rfl) ?_
          refine z_icmp_le (tgt := 156) hx hb dX3_lenderOf_145 (by decide) (by omega) (by omega) (fun h145 => ?_) (fun h145 => ?_)
          · skip
            refine lv_iinc (v := zI (col + (1))) (lv' := [(8, .int (zI (col + (1)))), (10, .int (zI (ds))), (9, .int (zI ((col + (w * row))))), (0, .ref pg), (1, .int (zI (x))), (2, .int (zI (y))), (3, .int (zI ((x + (w * y))))), (4, .int (zI ((lightV M P pts cnt (x + (w * y)))))), (5, .int (zI (b1))), (6, .int (zI (f1))), (7, .int (zI (row)))]) hx hb dX3_lenderOf_156 hl (k := 10) rfl (zI_add _ _) (by decide) rfl (fun ls hl => ?_)
            refine z_goto (tgt := 67) hx hb dX3_lenderOf_159 (by decide) ?_
            exact ih67 (col + (1), b1, f1, ls) ⟨⟨by dsimp only; omega, hRn, best_skip hBs (by first | exact sk_far h124 hds hdb.2 hRn.2.2 | exact sk_unl h134 | exact sk_lit h145)⟩, lv_sub hl [3, 4, 5, 6, 7, 8, 9, 10, 0] rfl⟩ (by omega)
          · skip
            refine lv_iload hx hb dX3_lenderOf_148 (lv_at hl 1 rfl) ?_
            refine lv_istore (lv' := [(5, .int (zI ((col + (w * row))))), (10, .int (zI (ds))), (9, .int (zI ((col + (w * row))))), (0, .ref pg), (1, .int (zI (x))), (2, .int (zI (y))), (3, .int (zI ((x + (w * y))))), (4, .int (zI ((lightV M P pts cnt (x + (w * y)))))), (6, .int (zI (f1))), (7, .int (zI (row))), (8, .int (zI (col)))]) hx hb dX3_lenderOf_150 hl (by decide) rfl (fun ls hl => ?_)
            refine lv_iload hx hb dX3_lenderOf_152 (lv_at hl 1 rfl) ?_
            refine lv_istore (lv' := [(6, .int (zI (ds))), (5, .int (zI ((col + (w * row))))), (10, .int (zI (ds))), (9, .int (zI ((col + (w * row))))), (0, .ref pg), (1, .int (zI (x))), (2, .int (zI (y))), (3, .int (zI ((x + (w * y))))), (4, .int (zI ((lightV M P pts cnt (x + (w * y)))))), (7, .int (zI (row))), (8, .int (zI (col)))]) hx hb dX3_lenderOf_154 hl (by decide) rfl (fun ls hl => ?_)
            refine lv_iinc (v := zI (col + (1))) (lv' := [(8, .int (zI (col + (1)))), (6, .int (zI (ds))), (5, .int (zI ((col + (w * row))))), (10, .int (zI (ds))), (9, .int (zI ((col + (w * row))))), (0, .ref pg), (1, .int (zI (x))), (2, .int (zI (y))), (3, .int (zI ((x + (w * y))))), (4, .int (zI ((lightV M P pts cnt (x + (w * y)))))), (7, .int (zI (row)))]) hx hb dX3_lenderOf_156 hl (k := 10) rfl (zI_add _ _) (by decide) rfl (fun ls hl => ?_)
            refine z_goto (tgt := 67) hx hb dX3_lenderOf_159 (by decide) ?_
            exact ih67 (col + (1), (col + (w * row)), ds, ls) ⟨⟨by dsimp only; omega, by dsimp only; omega, hds ▸ best_take hBs hwin (by unfold cdB; rw [bI_t.mp h134, decide_eq_true (by omega)]; rfl) (by omega)⟩, lv_sub hl [5, 6, 7, 8, 9, 2, 1, 10, 0] rfl⟩ (by omega)
end
section
/-! ===== runs; the curve's and the cells' readers ===== -/
def cntB (f : Int → Bool) : Nat → Int
  | 0 => 0
  | n + 1 => cntB f n + bI (f (n : Int))
theorem cntB_s (f : Int → Bool) {k : Int} (h : 0 ≤ k) : cntB f (k + 1).toNat = cntB f k.toNat + bI (f k) := by
  rw [toNat_s h]; show cntB f k.toNat + bI (f ((k.toNat : Nat) : Int)) = _; rw [toNat_c h]
theorem cntB_b (f : Int → Bool) : ∀ n : Nat, 0 ≤ cntB f n ∧ cntB f n ≤ n := by
  intro n
  induction n with
  | zero => simp [cntB]
  | succ n ih => have := bI_01 (f (n : Int)); show 0 ≤ cntB f n + bI (f (n : Int)) ∧ cntB f n + bI (f (n : Int)) ≤ _; omega
/-- the first point where run number 'num' begins, -1 where there is none, among the first n -/
def srF (f : Int → Bool) (num : Int) : Nat → Int
  | 0 => -1
  | n + 1 => if srF f num n = -1 then (if f (n : Int) = true ∧ cntB f n = num then (n : Int) else -1) else srF f num n
theorem srF_s (f : Int → Bool) (num : Int) {k : Int} (h : 0 ≤ k) : srF f num (k + 1).toNat = if srF f num k.toNat = -1 then (if f k = true ∧ cntB f k.toNat = num then k else -1) else srF f num k.toNat := by
  rw [toNat_s h]; show (if srF f num k.toNat = -1 then (if f ((k.toNat : Nat) : Int) = true ∧ cntB f k.toNat = num then ((k.toNat : Nat) : Int) else -1) else srF f num k.toNat) = _; rw [toNat_c h]
theorem srF_st (f : Int → Bool) (num : Int) {a b : Nat} (h : a ≤ b) (ha : srF f num a ≠ -1) : srF f num b = srF f num a := by
  induction b with
  | zero => have : a = 0 := by omega
            rw [this]
  | succ n ih =>
    by_cases q : a = n + 1
    · rw [q]
    · have h1 := ih (by omega)
      show (if srF f num n = -1 then _ else srF f num n) = _
      rw [h1, if_neg ha]
theorem srF_b (f : Int → Bool) (num : Int) : ∀ n : Nat, -1 ≤ srF f num n ∧ srF f num n < n ∨ srF f num n = -1 := by
  intro n
  induction n with
  | zero => right; rfl
  | succ n ih =>
    show -1 ≤ (if srF f num n = -1 then (if f (n : Int) = true ∧ cntB f n = num then (n : Int) else -1) else srF f num n) ∧ (if srF f num n = -1 then (if f (n : Int) = true ∧ cntB f n = num then (n : Int) else -1) else srF f num n) < _ ∨ (if srF f num n = -1 then (if f (n : Int) = true ∧ cntB f n = num then (n : Int) else -1) else srF f num n) = -1
    split
    · split
      · left; omega
      · right; rfl
    · left; omega
def stR (P : Int → Int) (pts w k p : Int) : Bool := decide (p % w = 0) || decide (P (k * pts + p) ≠ P (k * pts + (p - 1)))
def isEnd (f : Int → Bool) (st pts e : Int) : Prop := (st < e ∧ e ≤ pts) ∧ (∀ j, st < j → j < e → f j = false) ∧ (e = pts ∨ f e = true)
theorem isEnd_u {f : Int → Bool} {st pts e e' : Int} (h : isEnd f st pts e) (h' : isEnd f st pts e') : e = e' := by
  obtain ⟨a1, a2, a3⟩ := h
  obtain ⟨b1, b2, b3⟩ := h'
  rcases Int.lt_trichotomy e e' with q | q | q
  · rcases a3 with a3 | a3
    · omega
    · rw [b2 e a1.1 q] at a3; cases a3
  · exact q
  · rcases b3 with b3 | b3
    · omega
    · rw [a2 e' b1.1 q] at b3; cases b3
noncomputable def endV (f : Int → Bool) (st pts : Int) : Int := Classical.epsilon (fun e : Int => isEnd f st pts e)
theorem end_eq {f : Int → Bool} {st pts e : Int} (h : isEnd f st pts e) : e = endV f st pts := isEnd_u h (Classical.epsilon_spec (p := fun e : Int => isEnd f st pts e) ⟨e, h⟩)
theorem bI_cases {b : Bool} {v : Int} (h1 : b = true → v = 1) (h0 : b = false → v = 0) : v = bI b := by cases b <;> simp_all [bI]
theorem z_xor_ge {p : Program} {l : Launch} {e : Env} {R : Room} {s : State} {m : MethodId} {args : Array Value} {below : List Frame} {meth : Method} {c : Code} {H : Heap} {locs : List Loc} {cells slots : Nat} {Q : State → Prop} {cc : ByteArray} {pc : Nat} {ls : Array Slot} {rest : List Value} (hx : p.tables.exec = Jvm.exec) (hb : c.code = cc) {a b : Int} {off : Int} {tgt : Nat} (hd : decode cc pc = .ok (.ifCond .ge off, 3)) (ht : (pc : Int) + off = (tgt : Int)) (ha : -2147483648 ≤ a ∧ a ≤ 2147483647) (hb' : 0 < b ∧ b ≤ 2147483647) (kt : 0 ≤ a → W p l e R s m args below meth c H locs cells slots Q (F0 m tgt ls rest)) (kf : ¬ 0 ≤ a → W p l e R s m args below meth c H locs cells slots Q (F0 m (pc + 3) ls rest)) : W p l e R s m args below meth c H locs cells slots Q (F0 m pc ls (.int (zI a ^^^ zI b) :: rest)) := by
  have key : 0 ≤ zI a ^^^ zI b ↔ 0 ≤ a := by
    have h1 : (zI a ^^^ zI b).toInt = ((zI a).toBitVec ^^^ (zI b).toBitVec).toInt := rfl
    rw [Int32.le_iff_toInt_le, h1]
    have h2 := BitVec.msb_eq_toInt (x := (zI a).toBitVec ^^^ (zI b).toBitVec)
    have h3 := BitVec.msb_eq_toInt (x := (zI a).toBitVec)
    have h4 := BitVec.msb_eq_toInt (x := (zI b).toBitVec)
    rw [BitVec.msb_xor, h3, h4] at h2
    have h5 : (zI a).toBitVec.toInt = a := zI_to ha
    have h6 : (zI b).toBitVec.toInt = b := zI_to (by omega)
    have h0 : (0 : Int32).toInt = 0 := rfl
    rw [h5, h6, decide_eq_false (show ¬ b < 0 by omega), Bool.xor_false, decide_eq_decide] at h2
    rw [h0]; omega
  exact lv_if_ge hx hb hd ht (fun h => kt (key.mp h)) (fun h => kf (fun q => h (key.mpr q)))

theorem tdiv_spec (x : Int) {d : Int} (hd : 0 < d ∧ d ≤ 1000000) : (0 ≤ x → x.tdiv d = x / d ∧ x.tmod d = x % d) ∧ (¬ 0 ≤ x → (x % d = 0 ∧ x.tdiv d = x / d ∧ x.tmod d = 0) ∨ (x % d ≠ 0 ∧ x.tdiv d = x / d + 1 ∧ x.tmod d = x % d - d)) := by
  refine ⟨fun h => ⟨Int.tdiv_eq_ediv_of_nonneg h, Int.tmod_eq_emod_of_nonneg h⟩, fun h => ?_⟩
  have h1 := Int.mul_ediv_add_emod x d
  have h2 := Int.emod_nonneg x (show d ≠ 0 by omega)
  have h3 := Int.emod_lt_of_pos x hd.1
  have h4 := Int.tmod_add_tdiv_mul x d
  have h5 : -d < x.tmod d ∧ x.tmod d ≤ 0 := by
    have h6 : x.tmod d = -((-x).tmod d) := by rw [Int.neg_tmod]; omega
    have h7 : (-x).tmod d = (-x) % d := Int.tmod_eq_emod_of_nonneg (by omega)
    have h8 := Int.emod_nonneg (-x) (show d ≠ 0 by omega)
    have h9 := Int.emod_lt_of_pos (-x) hd.1
    omega
  have h10 : d * (x / d) + x % d = x.tdiv d * d + x.tmod d := by omega
  have h11 : d * (x / d - x.tdiv d) = x.tmod d - x % d := by rw [Int.mul_sub, Int.mul_comm d (x.tdiv d)]; omega
  have h12 : -2 * d < d * (x / d - x.tdiv d) ∧ d * (x / d - x.tdiv d) ≤ 0 := by omega
  have h13 : x / d - x.tdiv d ≤ 0 := by
    apply Int.not_lt.mp; intro q
    have := Int.mul_le_mul_of_nonneg_left (a := 1) (b := x / d - x.tdiv d) (c := d) (by omega) (by omega)
    omega
  have h14 : -2 < x / d - x.tdiv d := by
    apply Int.not_le.mp; intro q
    have := Int.mul_le_mul_of_nonneg_left (a := x / d - x.tdiv d) (b := -2) (c := d) q (by omega)
    omega
  have h15 : x / d - x.tdiv d = 0 ∨ x / d - x.tdiv d = -1 := by omega
  rcases h15 with h15 | h15
  · rw [h15, Int.mul_zero] at h11; left; omega
  · rw [h15] at h11; right; omega
theorem tdiv_b (x : Int) {d : Int} (hd : 0 < d ∧ d ≤ 1000000) (hx : -2147483647 ≤ x ∧ x ≤ 2147483647) : -2147483647 ≤ x.tdiv d ∧ x.tdiv d ≤ 2147483647 := by
  have h1 : x.tdiv d * d = x - x.tmod d := by have := Int.tmod_add_tdiv_mul x d; omega
  have h2 := tmod_bounds (a := x) hd.1
  constructor
  · apply Int.not_lt.mp; intro q
    have := Int.mul_le_mul_of_nonneg_right (a := x.tdiv d) (b := -2147483648) (c := d) (by omega) (by omega)
    omega
  · apply Int.not_lt.mp; intro q
    have := Int.mul_le_mul_of_nonneg_right (a := 2147483648) (b := x.tdiv d) (c := d) (by omega) (by omega)
    omega

set_option maxHeartbeats 4000000 in
set_option maxRecDepth 100000 in
theorem c_X3_startsRun (l : Launch) (G : zG) (pg ik mx co pa : Nat) (w h pts cnt most rch : Int) (M C P : Int → Int) (k q : Int) (hp : pgOK w h pts cnt most rch M C P) (hk : 0 ≤ k ∧ k < 8) (hq : 0 ≤ q ∧ q < pts) : zRd l yX3_startsRun cX3_startsRun 3 (some .boolean) { frames := 1, cells := 0, slots := 0, locals := 22 } G [.ref pg, .int (zI (k)), .int (zI (q))] (pgL G pg ik mx co pa w h pts cnt most rch M C P) (bI (stR P pts w k q)) := by
  refine Met.ofW (cc := cX3_startsRun) (maxL := 3) (ret := (some .boolean)) (by decide) rfl ?_
  intro p e s m args below meth c s₁ B hml hv
  obtain ⟨rfl, hP, hK⟩ := hv
  have hx := B.exec
  have hb := B.bytes
  have hr := B.returns
  have hT : ∀ w ∈ TB, w.before _ s = true := fun w h => atoms_spec (ws := Cond.code yX3_startsRun cX3_startsRun 3 (some .boolean) :: TB) B.pre w (List.mem_cons_of_mem _ h)
  have hown : s.vm.findClass RX3 = some m.cls := findClass_of_methodNamed B.named
  have hlocks := B.notSynchronized
  have hl := lv_entry ([.ref pg, .int (zI (k)), .int (zI (q))]) (n := 3) (Nat.le_of_ble_eq_true rfl)
  rw [lg_entry_eq]
  generalize (lg_sl ([.ref pg, .int (zI (k)), .int (zI (q))]) ++ List.replicate (3 - (lg_sl ([.ref pg, .int (zI (k)), .int (zI (q))])).length) Slot.unset).toArray = ls at hl ⊢
  have hl : lv_has ls 3 [(0, .ref pg), (1, .int (zI (k))), (2, .int (zI (q)))] := hl
  obtain ⟨hw, hh, hpts, hcnt, hmost, hrch, hM, hC, hB⟩ := id hp
  have hpt := pgOK_pts hp
  have hqm := Int.emod_nonneg q (show w ≠ 0 by omega)
  have hqm2 := Int.emod_lt_of_pos q (show 0 < w by omega)
  refine lv_iload_n hx hb dX3_startsRun_0 rfl (lv_at hl 2 rfl) ?_
  refine lv_aload_n hx hb dX3_startsRun_1 rfl (lv_at hl 0 rfl) ?_
  refine gf_X3_25 hx hb hT hown hK hP 0 rfl rfl dX3_startsRun_2 ?_
  refine z_irem hx hb dX3_startsRun_5 (by omega) (by omega) ?_
  refine z_if_eq (tgt := 26) hx hb dX3_startsRun_6 (by decide) (by omega) (fun h6 => ?_) (fun h6 => ?_)
  · skip
    refine z_iconst hx hb dX3_startsRun_26 ?_
    refine z_goto (tgt := 31) hx hb dX3_startsRun_27 (by decide) ?_
    exact z_zret hx hb hr hlocks (by first | exact Or.inl rfl | exact Or.inr rfl) (by refine bI_cases (fun h9 => ?_) (fun h9 => ?_) <;> first | rfl | (exfalso; simp only [stR, Bool.or_eq_true, Bool.or_eq_false_iff, decide_eq_true_eq, decide_eq_false_iff_not] at h9; omega)) dX3_startsRun_31
  · skip
    have hq1 : q ≠ 0 := fun h9 => h6 (by rw [h9]; simp)
    have hb1 := hB (k * pts + q)
    have hb2 := hB (k * pts + (q - 1))
    refine lv_aload_n hx hb dX3_startsRun_9 rfl (lv_at hl 0 rfl) ?_
    refine lv_iload_n hx hb dX3_startsRun_10 rfl (lv_at hl 1 rfl) ?_
    refine lv_iload_n hx hb dX3_startsRun_11 rfl (lv_at hl 2 rfl) ?_
    refine z_callV (q0 := 0) (G := G) (As := [.int (zI (k)), .int (zI (q))]) (rest := []) hx hb hml hown hT hK (c_X3_byteAt l G pg ik mx co pa w h pts cnt most rch M C P (k) (q) hp (by omega) (by omega)) kc_X3_38 ⟨Nat.le_of_ble_eq_true rfl, Nat.le_of_ble_eq_true rfl⟩ ⟨rfl, rfl⟩ ⟨Nat.zero_le _, Nat.zero_le _⟩ hP rfl rfl rfl rfl hl.1 rfl (Nat.le_of_ble_eq_true rfl) dX3_startsRun_12 ?_
    refine lv_aload_n hx hb dX3_startsRun_15 rfl (lv_at hl 0 rfl) ?_
    refine lv_iload_n hx hb dX3_startsRun_16 rfl (lv_at hl 1 rfl) ?_
    refine lv_iload_n hx hb dX3_startsRun_17 rfl (lv_at hl 2 rfl) ?_
    refine z_iconst hx hb dX3_startsRun_18 ?_
    refine z_isub hx hb dX3_startsRun_19 ?_
    refine z_callV (q0 := 0) (G := G) (As := [.int (zI (k)), .int (zI ((q - 1)))]) (rest := [.int (zI ((P (k * pts + q))))]) hx hb hml hown hT hK (c_X3_byteAt l G pg ik mx co pa w h pts cnt most rch M C P (k) ((q - 1)) hp (by omega) (by omega)) kc_X3_38 ⟨Nat.le_of_ble_eq_true rfl, Nat.le_of_ble_eq_true rfl⟩ ⟨rfl, rfl⟩ ⟨Nat.zero_le _, Nat.zero_le _⟩ hP rfl rfl rfl rfl hl.1 rfl (Nat.le_of_ble_eq_true rfl) dX3_startsRun_20 ?_
    refine z_icmp_eq (tgt := 30) hx hb dX3_startsRun_23 (by decide) (by omega) (by omega) (fun h23 => ?_) (fun h23 => ?_)
    · skip
      refine z_iconst hx hb dX3_startsRun_30 ?_
      exact z_zret hx hb hr hlocks (by first | exact Or.inl rfl | exact Or.inr rfl) (by refine bI_cases (fun h9 => ?_) (fun h9 => ?_) <;> first | rfl | (exfalso; simp only [stR, Bool.or_eq_true, Bool.or_eq_false_iff, decide_eq_true_eq, decide_eq_false_iff_not] at h9; omega)) dX3_startsRun_31
    · skip
      refine z_iconst hx hb dX3_startsRun_26 ?_
      refine z_goto (tgt := 31) hx hb dX3_startsRun_27 (by decide) ?_
      exact z_zret hx hb hr hlocks (by first | exact Or.inl rfl | exact Or.inr rfl) (by refine bI_cases (fun h9 => ?_) (fun h9 => ?_) <;> first | rfl | (exfalso; simp only [stR, Bool.or_eq_true, Bool.or_eq_false_iff, decide_eq_true_eq, decide_eq_false_iff_not] at h9; omega)) dX3_startsRun_31

set_option maxHeartbeats 4000000 in
set_option maxRecDepth 100000 in
theorem c_X3_countRuns (l : Launch) (G : zG) (pg ik mx co pa : Nat) (w h pts cnt most rch : Int) (M C P : Int → Int) (k : Int) (hp : pgOK w h pts cnt most rch M C P) (hk : 0 ≤ k ∧ k < 8) : zRd l yX3_countRuns cX3_countRuns 4 (some .int) { frames := 2, cells := 0, slots := 0, locals := 44 } G [.ref pg, .int (zI (k))] (pgL G pg ik mx co pa w h pts cnt most rch M C P) (cntB (stR P pts w k) pts.toNat) := by
  refine Met.ofW (cc := cX3_countRuns) (maxL := 4) (ret := (some .int)) (by decide) rfl ?_
  intro p e s m args below meth c s₁ B hml hv
  obtain ⟨rfl, hP, hK⟩ := hv
  have hx := B.exec
  have hb := B.bytes
  have hr := B.returns
  have hT : ∀ w ∈ TB, w.before _ s = true := fun w h => atoms_spec (ws := Cond.code yX3_countRuns cX3_countRuns 4 (some .int) :: TB) B.pre w (List.mem_cons_of_mem _ h)
  have hown : s.vm.findClass RX3 = some m.cls := findClass_of_methodNamed B.named
  have hlocks := B.notSynchronized
  have hl := lv_entry ([.ref pg, .int (zI (k))]) (n := 4) (Nat.le_of_ble_eq_true rfl)
  rw [lg_entry_eq]
  generalize (lg_sl ([.ref pg, .int (zI (k))]) ++ List.replicate (4 - (lg_sl ([.ref pg, .int (zI (k))])).length) Slot.unset).toArray = ls at hl ⊢
  have hl : lv_has ls 4 [(0, .ref pg), (1, .int (zI (k)))] := hl
  obtain ⟨hw, hh, hpts, hcnt, hmost, hrch, hM, hC, hB⟩ := id hp
  have hpt := pgOK_pts hp
  refine z_iconst hx hb dX3_countRuns_0 ?_
  refine lv_istore_n (lv' := [(2, .int (zI (0))), (0, .ref pg), (1, .int (zI (k)))]) hx hb dX3_countRuns_1 rfl hl (by decide) rfl (fun ls hl => ?_)
  refine z_iconst hx hb dX3_countRuns_2 ?_
  refine lv_istore_n (lv' := [(3, .int (zI (0))), (2, .int (zI (0))), (0, .ref pg), (1, .int (zI (k)))]) hx hb dX3_countRuns_3 rfl hl (by decide) rfl (fun ls hl => ?_)
  refine z_loop (σ := Int × Array Slot) (fun zq => F0 m 4 (zq.2) []) (fun zq => (0 ≤ zq.1 ∧ zq.1 ≤ pts) ∧ lv_has (zq.2) 4 [(0, .ref pg), (1, .int (zI (k))), (2, .int (zI (cntB (stR P pts w k) zq.1.toNat))), (3, .int (zI (zq.1)))]) (fun zq => (pts - zq.1).toNat) ?_ (0, ls) ⟨by refine ⟨?_, ?_⟩ <;> omega, lv_sub hl [2, 3, 1, 0] rfl⟩
  intro zq hq ih
  obtain ⟨q, ls⟩ := zq
  obtain ⟨hI, hl⟩ := hq
  try dsimp only at hI hl ih ⊢
  have ih4 := ih
  refine lv_iload_n hx hb dX3_countRuns_4 rfl (lv_at hl 3 rfl) ?_
  refine lv_aload_n hx hb dX3_countRuns_5 rfl (lv_at hl 0 rfl) ?_
  refine gf_X3_31 hx hb hT hown hK hP 0 rfl rfl dX3_countRuns_6 ?_
  refine z_icmp_ge (tgt := 30) hx hb dX3_countRuns_9 (by decide) (by omega) (by omega) (fun h9 => ?_) (fun h9 => ?_)
  · skip
    refine lv_iload_n hx hb dX3_countRuns_30 rfl (lv_at hl 2 rfl) ?_
    exact z_iret hx hb hr hlocks (by have hkc : q = pts := (by omega); subst hkc; rfl) dX3_countRuns_31
  · skip
    have hc9 := cntB_b (stR P pts w k) q.toNat
    have hs9 := bI_01 (stR P pts w k q)
    have hcs := cntB_s (stR P pts w k) (k := q) (by omega)
    refine lv_aload_n hx hb dX3_countRuns_12 rfl (lv_at hl 0 rfl) ?_
    refine lv_iload_n hx hb dX3_countRuns_13 rfl (lv_at hl 1 rfl) ?_
    refine lv_iload_n hx hb dX3_countRuns_14 rfl (lv_at hl 3 rfl) ?_
    refine z_callV (q0 := 0) (G := G) (As := [.int (zI (k)), .int (zI (q))]) (rest := []) hx hb hml hown hT hK (c_X3_startsRun l G pg ik mx co pa w h pts cnt most rch M C P (k) (q) hp (by omega) (by omega)) kc_X3_89 ⟨Nat.le_of_ble_eq_true rfl, Nat.le_of_ble_eq_true rfl⟩ ⟨rfl, rfl⟩ ⟨Nat.zero_le _, Nat.zero_le _⟩ hP rfl rfl rfl rfl hl.1 rfl (Nat.le_of_ble_eq_true rfl) dX3_countRuns_15 ?_
    refine z_if_eq (tgt := 24) hx hb dX3_countRuns_18 (by decide) (by omega) (fun h18 => ?_) (fun h18 => ?_)
    · skip
      refine lv_iinc (v := zI (q + (1))) (lv' := [(3, .int (zI (q + (1)))), (0, .ref pg), (1, .int (zI (k))), (2, .int (zI (cntB (stR P pts w k) q.toNat)))]) hx hb dX3_countRuns_24 hl (k := 3) rfl (zI_add _ _) (by decide) rfl (fun ls hl => ?_)
      refine z_goto (tgt := 4) hx hb dX3_countRuns_27 (by decide) ?_
      rw [show ((cntB (stR P pts w k) q.toNat) : Int) = cntB (stR P pts w k) (q + 1).toNat by omega] at hl
      exact ih4 (q + 1, ls) ⟨by refine ⟨?_, ?_⟩ <;> omega, lv_sub hl [1, 2, 3, 0] rfl⟩ (by omega)
    · skip
      refine lv_iinc (v := zI (cntB (stR P pts w k) q.toNat + (1))) (lv' := [(2, .int (zI (cntB (stR P pts w k) q.toNat + (1)))), (0, .ref pg), (1, .int (zI (k))), (3, .int (zI (q)))]) hx hb dX3_countRuns_21 hl (k := 2) rfl (zI_add _ _) (by decide) rfl (fun ls hl => ?_)
      refine lv_iinc (v := zI (q + (1))) (lv' := [(3, .int (zI (q + (1)))), (2, .int (zI (cntB (stR P pts w k) q.toNat + (1)))), (0, .ref pg), (1, .int (zI (k)))]) hx hb dX3_countRuns_24 hl (k := 3) rfl (zI_add _ _) (by decide) rfl (fun ls hl => ?_)
      refine z_goto (tgt := 4) hx hb dX3_countRuns_27 (by decide) ?_
      rw [show ((cntB (stR P pts w k) q.toNat + (1)) : Int) = cntB (stR P pts w k) (q + 1).toNat by omega] at hl
      exact ih4 (q + 1, ls) ⟨by refine ⟨?_, ?_⟩ <;> omega, lv_sub hl [2, 3, 1, 0] rfl⟩ (by omega)

set_option maxHeartbeats 4000000 in
set_option maxRecDepth 100000 in
theorem c_X3_startOfRun (l : Launch) (G : zG) (pg ik mx co pa : Nat) (w h pts cnt most rch : Int) (M C P : Int → Int) (k num : Int) (hp : pgOK w h pts cnt most rch M C P) (hk : 0 ≤ k ∧ k < 8) (hnum : -2147483648 ≤ num ∧ num ≤ 2147483647) : zRd l yX3_startOfRun cX3_startOfRun 5 (some .int) { frames := 2, cells := 0, slots := 0, locals := 44 } G [.ref pg, .int (zI (k)), .int (zI (num))] (pgL G pg ik mx co pa w h pts cnt most rch M C P) (srF (stR P pts w k) num pts.toNat) := by
  refine Met.ofW (cc := cX3_startOfRun) (maxL := 5) (ret := (some .int)) (by decide) rfl ?_
  intro p e s m args below meth c s₁ B hml hv
  obtain ⟨rfl, hP, hK⟩ := hv
  have hx := B.exec
  have hb := B.bytes
  have hr := B.returns
  have hT : ∀ w ∈ TB, w.before _ s = true := fun w h => atoms_spec (ws := Cond.code yX3_startOfRun cX3_startOfRun 5 (some .int) :: TB) B.pre w (List.mem_cons_of_mem _ h)
  have hown : s.vm.findClass RX3 = some m.cls := findClass_of_methodNamed B.named
  have hlocks := B.notSynchronized
  have hl := lv_entry ([.ref pg, .int (zI (k)), .int (zI (num))]) (n := 5) (Nat.le_of_ble_eq_true rfl)
  rw [lg_entry_eq]
  generalize (lg_sl ([.ref pg, .int (zI (k)), .int (zI (num))]) ++ List.replicate (5 - (lg_sl ([.ref pg, .int (zI (k)), .int (zI (num))])).length) Slot.unset).toArray = ls at hl ⊢
  have hl : lv_has ls 5 [(0, .ref pg), (1, .int (zI (k))), (2, .int (zI (num)))] := hl
  obtain ⟨hw, hh, hpts, hcnt, hmost, hrch, hM, hC, hB⟩ := id hp
  have hpt := pgOK_pts hp
  refine z_iconst hx hb dX3_startOfRun_0 ?_
  refine lv_istore_n (lv' := [(3, .int (zI (0))), (0, .ref pg), (1, .int (zI (k))), (2, .int (zI (num)))]) hx hb dX3_startOfRun_1 rfl hl (by decide) rfl (fun ls hl => ?_)
  refine z_iconst hx hb dX3_startOfRun_2 ?_
  refine lv_istore (lv' := [(4, .int (zI (0))), (3, .int (zI (0))), (0, .ref pg), (1, .int (zI (k))), (2, .int (zI (num)))]) hx hb dX3_startOfRun_3 hl (by decide) rfl (fun ls hl => ?_)
  refine z_loop (σ := Int × Array Slot) (fun zq => F0 m 5 (zq.2) []) (fun zq => ((0 ≤ zq.1 ∧ zq.1 ≤ pts) ∧ srF (stR P pts w k) num zq.1.toNat = -1) ∧ lv_has (zq.2) 5 [(0, .ref pg), (1, .int (zI (k))), (2, .int (zI (num))), (3, .int (zI (cntB (stR P pts w k) zq.1.toNat))), (4, .int (zI (zq.1)))]) (fun zq => (pts - zq.1).toNat) ?_ (0, ls) ⟨⟨by omega, rfl⟩, lv_sub hl [2, 3, 4, 1, 0] rfl⟩
  intro zq hq ih
  obtain ⟨q, ls⟩ := zq
  obtain ⟨⟨hI, hI2⟩, hl⟩ := hq
  try dsimp only at hI hI2 hl ih ⊢
  have ih5 := ih
  refine lv_iload hx hb dX3_startOfRun_5 (lv_at hl 4 rfl) ?_
  refine lv_aload_n hx hb dX3_startOfRun_7 rfl (lv_at hl 0 rfl) ?_
  refine gf_X3_31 hx hb hT hown hK hP 0 rfl rfl dX3_startOfRun_8 ?_
  refine z_icmp_ge (tgt := 41) hx hb dX3_startOfRun_11 (by decide) (by omega) (by omega) (fun h11 => ?_) (fun h11 => ?_)
  · skip
    refine z_iconst hx hb dX3_startOfRun_41 ?_
    exact z_iret hx hb hr hlocks (by have hkc : q = pts := (by omega); subst hkc; exact hI2.symm) dX3_startOfRun_42
  · skip
    have hc9 := cntB_b (stR P pts w k) q.toNat
    have hs9 := bI_01 (stR P pts w k q)
    have hcs := cntB_s (stR P pts w k) (k := q) (by omega)
    refine lv_aload_n hx hb dX3_startOfRun_14 rfl (lv_at hl 0 rfl) ?_
    refine lv_iload_n hx hb dX3_startOfRun_15 rfl (lv_at hl 1 rfl) ?_
    refine lv_iload hx hb dX3_startOfRun_16 (lv_at hl 4 rfl) ?_
    refine z_callV (q0 := 0) (G := G) (As := [.int (zI (k)), .int (zI (q))]) (rest := []) hx hb hml hown hT hK (c_X3_startsRun l G pg ik mx co pa w h pts cnt most rch M C P (k) (q) hp (by omega) (by omega)) kc_X3_89 ⟨Nat.le_of_ble_eq_true rfl, Nat.le_of_ble_eq_true rfl⟩ ⟨rfl, rfl⟩ ⟨Nat.zero_le _, Nat.zero_le _⟩ hP rfl rfl rfl rfl hl.1 rfl (Nat.le_of_ble_eq_true rfl) dX3_startOfRun_18 ?_
    refine z_if_eq (tgt := 35) hx hb dX3_startOfRun_21 (by decide) (by omega) (fun h21 => ?_) (fun h21 => ?_)
    · skip
      refine lv_iinc (v := zI (q + (1))) (lv' := [(4, .int (zI (q + (1)))), (0, .ref pg), (1, .int (zI (k))), (2, .int (zI (num))), (3, .int (zI (cntB (stR P pts w k) q.toNat)))]) hx hb dX3_startOfRun_35 hl (k := 4) rfl (zI_add _ _) (by decide) rfl (fun ls hl => ?_)
      refine z_goto (tgt := 5) hx hb dX3_startOfRun_38 (by decide) ?_
      rw [show ((cntB (stR P pts w k) q.toNat) : Int) = cntB (stR P pts w k) (q + 1).toNat by omega] at hl
      exact ih5 (q + 1, ls) ⟨⟨by omega, by rw [srF_s _ _ (by omega), if_pos hI2]; refine if_neg (fun h9 => ?_); first | (rw [bI_f.mp h21] at h9; cases h9.1) | exact h26 h9.2⟩, lv_sub hl [1, 2, 3, 4, 0] rfl⟩ (by omega)
    · skip
      refine lv_iload_n hx hb dX3_startOfRun_24 rfl (lv_at hl 3 rfl) ?_
      refine lv_iload_n hx hb dX3_startOfRun_25 rfl (lv_at hl 2 rfl) ?_
      refine z_icmp_ne (tgt := 32) hx hb dX3_startOfRun_26 (by decide) (by omega) (by omega) (fun h26 => ?_) (fun h26 => ?_)
      · skip
        refine lv_iinc (v := zI (cntB (stR P pts w k) q.toNat + (1))) (lv' := [(3, .int (zI (cntB (stR P pts w k) q.toNat + (1)))), (0, .ref pg), (1, .int (zI (k))), (2, .int (zI (num))), (4, .int (zI (q)))]) hx hb dX3_startOfRun_32 hl (k := 3) rfl (zI_add _ _) (by decide) rfl (fun ls hl => ?_)
        refine lv_iinc (v := zI (q + (1))) (lv' := [(4, .int (zI (q + (1)))), (3, .int (zI (cntB (stR P pts w k) q.toNat + (1)))), (0, .ref pg), (1, .int (zI (k))), (2, .int (zI (num)))]) hx hb dX3_startOfRun_35 hl (k := 4) rfl (zI_add _ _) (by decide) rfl (fun ls hl => ?_)
        refine z_goto (tgt := 5) hx hb dX3_startOfRun_38 (by decide) ?_
        rw [show ((cntB (stR P pts w k) q.toNat + (1)) : Int) = cntB (stR P pts w k) (q + 1).toNat by omega] at hl
        exact ih5 (q + 1, ls) ⟨⟨by omega, by rw [srF_s _ _ (by omega), if_pos hI2]; refine if_neg (fun h9 => ?_); first | (rw [bI_f.mp h21] at h9; cases h9.1) | exact h26 h9.2⟩, lv_sub hl [2, 3, 4, 1, 0] rfl⟩ (by omega)
      · skip
        refine lv_iload hx hb dX3_startOfRun_29 (lv_at hl 4 rfl) ?_
        exact z_iret hx hb hr hlocks (by have h9 : srF (stR P pts w k) num (q + 1).toNat = q := (by rw [srF_s _ _ (by omega), if_pos hI2, if_pos ⟨bI_t.mp h21, h26⟩]); rw [srF_st _ _ (a := (q + 1).toNat) (by omega) (by omega), h9]) dX3_startOfRun_31

set_option maxHeartbeats 4000000 in
set_option maxRecDepth 100000 in
theorem c_X3_lengthOfRun (l : Launch) (G : zG) (pg ik mx co pa : Nat) (w h pts cnt most rch : Int) (M C P : Int → Int) (k st : Int) (hp : pgOK w h pts cnt most rch M C P) (hk : 0 ≤ k ∧ k < 8) (hst : 0 ≤ st ∧ st < pts) : zRd l yX3_lengthOfRun cX3_lengthOfRun 4 (some .int) { frames := 2, cells := 0, slots := 0, locals := 44 } G [.ref pg, .int (zI (k)), .int (zI (st))] (pgL G pg ik mx co pa w h pts cnt most rch M C P) (endV (stR P pts w k) st pts - st) := by
  refine Met.ofW (cc := cX3_lengthOfRun) (maxL := 4) (ret := (some .int)) (by decide) rfl ?_
  intro p e s m args below meth c s₁ B hml hv
  obtain ⟨rfl, hP, hK⟩ := hv
  have hx := B.exec
  have hb := B.bytes
  have hr := B.returns
  have hT : ∀ w ∈ TB, w.before _ s = true := fun w h => atoms_spec (ws := Cond.code yX3_lengthOfRun cX3_lengthOfRun 4 (some .int) :: TB) B.pre w (List.mem_cons_of_mem _ h)
  have hown : s.vm.findClass RX3 = some m.cls := findClass_of_methodNamed B.named
  have hlocks := B.notSynchronized
  have hl := lv_entry ([.ref pg, .int (zI (k)), .int (zI (st))]) (n := 4) (Nat.le_of_ble_eq_true rfl)
  rw [lg_entry_eq]
  generalize (lg_sl ([.ref pg, .int (zI (k)), .int (zI (st))]) ++ List.replicate (4 - (lg_sl ([.ref pg, .int (zI (k)), .int (zI (st))])).length) Slot.unset).toArray = ls at hl ⊢
  have hl : lv_has ls 4 [(0, .ref pg), (1, .int (zI (k))), (2, .int (zI (st)))] := hl
  obtain ⟨hw, hh, hpts, hcnt, hmost, hrch, hM, hC, hB⟩ := id hp
  have hpt := pgOK_pts hp
  refine lv_iload_n hx hb dX3_lengthOfRun_0 rfl (lv_at hl 2 rfl) ?_
  refine z_iconst hx hb dX3_lengthOfRun_1 ?_
  refine z_iadd hx hb dX3_lengthOfRun_2 ?_
  refine lv_istore_n (lv' := [(3, .int (zI ((st + 1)))), (0, .ref pg), (1, .int (zI (k))), (2, .int (zI (st)))]) hx hb dX3_lengthOfRun_3 rfl hl (by decide) rfl (fun ls hl => ?_)
  refine z_loop (σ := Int × Array Slot) (fun zq => F0 m 4 (zq.2) []) (fun zq => ((st < zq.1 ∧ zq.1 ≤ pts) ∧ ∀ j, st < j → j < zq.1 → stR P pts w k j = false) ∧ lv_has (zq.2) 4 [(0, .ref pg), (1, .int (zI (k))), (2, .int (zI (st))), (3, .int (zI (zq.1)))]) (fun zq => (pts - zq.1).toNat) ?_ ((st + 1), ls) ⟨⟨by dsimp only; omega, fun j h1 h2 => by dsimp only at h2; omega⟩, lv_sub hl [1, 2, 3, 0] rfl⟩
  intro zq hq ih
  obtain ⟨q, ls⟩ := zq
  obtain ⟨⟨hI, hI2⟩, hl⟩ := hq
  try dsimp only at hI hI2 hl ih ⊢
  have ih4 := ih
  refine lv_iload_n hx hb dX3_lengthOfRun_4 rfl (lv_at hl 3 rfl) ?_
  refine lv_aload_n hx hb dX3_lengthOfRun_5 rfl (lv_at hl 0 rfl) ?_
  refine gf_X3_31 hx hb hT hown hK hP 0 rfl rfl dX3_lengthOfRun_6 ?_
  refine z_icmp_ge (tgt := 27) hx hb dX3_lengthOfRun_9 (by decide) (by omega) (by omega) (fun h9 => ?_) (fun h9 => ?_)
  · skip
    refine lv_iload_n hx hb dX3_lengthOfRun_27 rfl (lv_at hl 3 rfl) ?_
    refine lv_iload_n hx hb dX3_lengthOfRun_28 rfl (lv_at hl 2 rfl) ?_
    refine z_isub hx hb dX3_lengthOfRun_29 ?_
    exact z_iret hx hb hr hlocks (by rw [← end_eq (e := q) ⟨by omega, hI2, by first | exact Or.inl (by omega) | exact Or.inr (bI_t.mp h18)⟩]) dX3_lengthOfRun_30
  · skip
    have hs9 := bI_01 (stR P pts w k q)
    refine lv_aload_n hx hb dX3_lengthOfRun_12 rfl (lv_at hl 0 rfl) ?_
    refine lv_iload_n hx hb dX3_lengthOfRun_13 rfl (lv_at hl 1 rfl) ?_
    refine lv_iload_n hx hb dX3_lengthOfRun_14 rfl (lv_at hl 3 rfl) ?_
    refine z_callV (q0 := 0) (G := G) (As := [.int (zI (k)), .int (zI (q))]) (rest := []) hx hb hml hown hT hK (c_X3_startsRun l G pg ik mx co pa w h pts cnt most rch M C P (k) (q) hp (by omega) (by omega)) kc_X3_89 ⟨Nat.le_of_ble_eq_true rfl, Nat.le_of_ble_eq_true rfl⟩ ⟨rfl, rfl⟩ ⟨Nat.zero_le _, Nat.zero_le _⟩ hP rfl rfl rfl rfl hl.1 rfl (Nat.le_of_ble_eq_true rfl) dX3_lengthOfRun_15 ?_
    refine z_if_ne (tgt := 27) hx hb dX3_lengthOfRun_18 (by decide) (by omega) (fun h18 => ?_) (fun h18 => ?_)
    · skip
      refine lv_iload_n hx hb dX3_lengthOfRun_27 rfl (lv_at hl 3 rfl) ?_
      refine lv_iload_n hx hb dX3_lengthOfRun_28 rfl (lv_at hl 2 rfl) ?_
      refine z_isub hx hb dX3_lengthOfRun_29 ?_
      exact z_iret hx hb hr hlocks (by rw [← end_eq (e := q) ⟨by omega, hI2, by first | exact Or.inl (by omega) | exact Or.inr (bI_t.mp h18)⟩]) dX3_lengthOfRun_30
    · skip
      refine lv_iinc (v := zI (q + (1))) (lv' := [(3, .int (zI (q + (1)))), (0, .ref pg), (1, .int (zI (k))), (2, .int (zI (st)))]) hx hb dX3_lengthOfRun_21 hl (k := 3) rfl (zI_add _ _) (by decide) rfl (fun ls hl => ?_)
      refine z_goto (tgt := 4) hx hb dX3_lengthOfRun_24 (by decide) ?_
      exact ih4 (q + 1, ls) ⟨⟨by dsimp only; omega, fun j h1 h2 => by dsimp only at h2; by_cases hj : j = q; (rw [hj]; exact bI_f.mp h18); exact hI2 j h1 (by omega)⟩, lv_sub hl [1, 2, 3, 0] rfl⟩ (by omega)

set_option maxHeartbeats 4000000 in
set_option maxRecDepth 100000 in
theorem c_J9_floorDiv_7cf53 (l : Launch) (G : zG) (x d : Int) (hx1 : -2147483647 ≤ x ∧ x ≤ 2147483647) (hd : 0 < d ∧ d ≤ 1000000) : zRd l yJ9_floorDiv_7cf53 cJ9_floorDiv_7cf53 3 (some .int) { frames := 0, cells := 0, slots := 0, locals := 0 } G [.int (zI (x)), .int (zI (d))] ([]) (x / d) := by
  refine va_MetF (cc := cJ9_floorDiv_7cf53) (maxL := 3) (ret := (some .int)) (by decide +kernel) rfl ?_
  intro p e s m args below meth c s₁ B hml hv
  obtain ⟨rfl, hP, hK⟩ := hv
  have hx := B.exec
  have hb := B.bytes
  have hr := B.returns
  have hT : ∀ w ∈ TB, w.before _ s = true := fun w h => atoms_spec (ws := Cond.code yJ9_floorDiv_7cf53 cJ9_floorDiv_7cf53 3 (some .int) :: TB) B.pre w (List.mem_cons_of_mem _ h)
  have hown : s.vm.findClass RJ9 = some m.cls := findClass_of_methodNamed B.named
  have hlocks := B.notSynchronized
  have hl := lv_entry ([.int (zI (x)), .int (zI (d))]) (n := 3) (Nat.le_of_ble_eq_true rfl)
  rw [lg_entry_eq]
  generalize (lg_sl ([.int (zI (x)), .int (zI (d))]) ++ List.replicate (3 - (lg_sl ([.int (zI (x)), .int (zI (d))])).length) Slot.unset).toArray = ls at hl ⊢
  have hl : lv_has ls 3 [(0, .int (zI (x))), (1, .int (zI (d)))] := hl
  have hdm := Int.mul_ediv_add_emod x d
  have hm1 := Int.emod_nonneg x (show d ≠ 0 by omega)
  have hm2 := Int.emod_lt_of_pos x (show 0 < d by omega)
  have hcm : x / d * d = d * (x / d) := Int.mul_comm _ _
  obtain ⟨hT1, hT2⟩ := tdiv_spec x hd
  have htm := Int.tmod_add_tdiv_mul x d
  have htb := tdiv_b x hd hx1
  refine lv_iload_n hx hb dJ9_floorDiv_7cf53_0 rfl (lv_at hl 0 rfl) ?_
  refine lv_iload_n hx hb dJ9_floorDiv_7cf53_1 rfl (lv_at hl 1 rfl) ?_
  refine z_itdiv hx hb dJ9_floorDiv_7cf53_2 (by omega) (by omega) (by omega) ?_
  refine lv_istore_n (lv' := [(2, .int (zI ((Int.tdiv (x) (d))))), (0, .int (zI (x))), (1, .int (zI (d)))]) hx hb dJ9_floorDiv_7cf53_3 rfl hl (by decide) rfl (fun ls hl => ?_)
  refine lv_iload_n hx hb dJ9_floorDiv_7cf53_4 rfl (lv_at hl 1 rfl) ?_
  refine lv_iload_n hx hb dJ9_floorDiv_7cf53_5 rfl (lv_at hl 2 rfl) ?_
  refine lv_ixor hx hb dJ9_floorDiv_7cf53_6 ?_
  refine z_xor_ge (tgt := 21) hx hb dJ9_floorDiv_7cf53_7 (by decide) (by omega) (by omega) (fun h7 => ?_) (fun h7 => ?_)
  · skip
    refine lv_iload_n hx hb dJ9_floorDiv_7cf53_21 rfl (lv_at hl 0 rfl) ?_
    exact z_iret hx hb hr hlocks (by omega) dJ9_floorDiv_7cf53_22
  · skip
    refine lv_iload_n hx hb dJ9_floorDiv_7cf53_10 rfl (lv_at hl 0 rfl) ?_
    refine lv_iload_n hx hb dJ9_floorDiv_7cf53_11 rfl (lv_at hl 2 rfl) ?_
    refine z_imul hx hb dJ9_floorDiv_7cf53_12 ?_
    refine lv_iload_n hx hb dJ9_floorDiv_7cf53_13 rfl (lv_at hl 1 rfl) ?_
    refine z_icmp_eq (tgt := 21) hx hb dJ9_floorDiv_7cf53_14 (by decide) (by omega) (by omega) (fun h14 => ?_) (fun h14 => ?_)
    · skip
      refine lv_iload_n hx hb dJ9_floorDiv_7cf53_21 rfl (lv_at hl 0 rfl) ?_
      exact z_iret hx hb hr hlocks (by omega) dJ9_floorDiv_7cf53_22
    · skip
      refine lv_iload_n hx hb dJ9_floorDiv_7cf53_17 rfl (lv_at hl 0 rfl) ?_
      refine z_iconst hx hb dJ9_floorDiv_7cf53_18 ?_
      refine z_isub hx hb dJ9_floorDiv_7cf53_19 ?_
      exact z_iret hx hb hr hlocks (by omega) dJ9_floorDiv_7cf53_20

set_option maxHeartbeats 4000000 in
set_option maxRecDepth 100000 in
theorem c_J9_floorMod_7cf53 (l : Launch) (G : zG) (x d : Int) (hx1 : -2147483647 ≤ x ∧ x ≤ 2147483647) (hd : 0 < d ∧ d ≤ 1000000) : zRd l yJ9_floorMod_7cf53 cJ9_floorMod_7cf53 3 (some .int) { frames := 0, cells := 0, slots := 0, locals := 0 } G [.int (zI (x)), .int (zI (d))] ([]) (x % d) := by
  refine va_MetF (cc := cJ9_floorMod_7cf53) (maxL := 3) (ret := (some .int)) (by decide +kernel) rfl ?_
  intro p e s m args below meth c s₁ B hml hv
  obtain ⟨rfl, hP, hK⟩ := hv
  have hx := B.exec
  have hb := B.bytes
  have hr := B.returns
  have hT : ∀ w ∈ TB, w.before _ s = true := fun w h => atoms_spec (ws := Cond.code yJ9_floorMod_7cf53 cJ9_floorMod_7cf53 3 (some .int) :: TB) B.pre w (List.mem_cons_of_mem _ h)
  have hown : s.vm.findClass RJ9 = some m.cls := findClass_of_methodNamed B.named
  have hlocks := B.notSynchronized
  have hl := lv_entry ([.int (zI (x)), .int (zI (d))]) (n := 3) (Nat.le_of_ble_eq_true rfl)
  rw [lg_entry_eq]
  generalize (lg_sl ([.int (zI (x)), .int (zI (d))]) ++ List.replicate (3 - (lg_sl ([.int (zI (x)), .int (zI (d))])).length) Slot.unset).toArray = ls at hl ⊢
  have hl : lv_has ls 3 [(0, .int (zI (x))), (1, .int (zI (d)))] := hl
  have hdm := Int.mul_ediv_add_emod x d
  have hm1 := Int.emod_nonneg x (show d ≠ 0 by omega)
  have hm2 := Int.emod_lt_of_pos x (show 0 < d by omega)
  have hcm : x / d * d = d * (x / d) := Int.mul_comm _ _
  obtain ⟨hT1, hT2⟩ := tdiv_spec x hd
  have htm := Int.tmod_add_tdiv_mul x d
  have htb := tdiv_b x hd hx1
  refine lv_iload_n hx hb dJ9_floorMod_7cf53_0 rfl (lv_at hl 0 rfl) ?_
  refine lv_iload_n hx hb dJ9_floorMod_7cf53_1 rfl (lv_at hl 1 rfl) ?_
  refine z_itrem hx hb dJ9_floorMod_7cf53_2 (by omega) (by omega) (by omega) ?_
  refine lv_istore_n (lv' := [(2, .int (zI ((Int.tmod (x) (d))))), (0, .int (zI (x))), (1, .int (zI (d)))]) hx hb dJ9_floorMod_7cf53_3 rfl hl (by decide) rfl (fun ls hl => ?_)
  refine lv_iload_n hx hb dJ9_floorMod_7cf53_4 rfl (lv_at hl 1 rfl) ?_
  refine lv_iload_n hx hb dJ9_floorMod_7cf53_5 rfl (lv_at hl 2 rfl) ?_
  refine lv_ixor hx hb dJ9_floorMod_7cf53_6 ?_
  refine z_xor_ge (tgt := 18) hx hb dJ9_floorMod_7cf53_7 (by decide) (by omega) (by omega) (fun h7 => ?_) (fun h7 => ?_)
  · skip
    refine lv_iload_n hx hb dJ9_floorMod_7cf53_18 rfl (lv_at hl 0 rfl) ?_
    exact z_iret hx hb hr hlocks (by omega) dJ9_floorMod_7cf53_19
  · skip
    refine lv_iload_n hx hb dJ9_floorMod_7cf53_10 rfl (lv_at hl 0 rfl) ?_
    refine z_if_eq (tgt := 18) hx hb dJ9_floorMod_7cf53_11 (by decide) (by omega) (fun h11 => ?_) (fun h11 => ?_)
    · skip
      refine lv_iload_n hx hb dJ9_floorMod_7cf53_18 rfl (lv_at hl 0 rfl) ?_
      exact z_iret hx hb hr hlocks (by omega) dJ9_floorMod_7cf53_19
    · skip
      refine lv_iload_n hx hb dJ9_floorMod_7cf53_14 rfl (lv_at hl 0 rfl) ?_
      refine lv_iload_n hx hb dJ9_floorMod_7cf53_15 rfl (lv_at hl 2 rfl) ?_
      refine z_iadd hx hb dJ9_floorMod_7cf53_16 ?_
      exact z_iret hx hb hr hlocks (by omega) dJ9_floorMod_7cf53_17
end
section
/-! ===== the curve, the cells: what they read ===== -/
abbrev cvL (G : zG) (cv ca cb : Nat) (cc : Int) (L V : Int → Int) : va_W := [(cv, .inr (2, [.ref ca, .ref cb, .int (zI cc)])), ia G ca 12 L, ia G cb 12 V]
def cvOK (cc : Int) (L V : Int → Int) : Prop := (2 ≤ cc ∧ cc ≤ 12) ∧ L 0 = 0 ∧ L (cc - 1) = 255 ∧ (∀ i j, 0 ≤ i → i < j → j < cc → L i < L j) ∧ (∀ j, 0 ≤ L j ∧ L j ≤ 255) ∧ (∀ j, 0 ≤ V j ∧ V j ≤ 255)
/-- the first place from v on, or the last -/
def ffR (cc : Int) (L : Int → Int) (v : Int) : Nat → Int → Int
  | 0, a => a
  | n + 1, a => if a < cc - 1 ∧ L a < v then ffR cc L v n (a + 1) else a
def ffV (cc : Int) (L : Int → Int) (v : Int) : Int := ffR cc L v 12 0
theorem ffR_b (cc : Int) (L : Int → Int) (v : Int) : ∀ (n : Nat) (a : Int), a ≤ cc - 1 → a ≤ ffR cc L v n a ∧ ffR cc L v n a ≤ cc - 1 := by
  intro n
  induction n with
  | zero => intro a h; exact ⟨Int.le_refl _, h⟩
  | succ n ih =>
    intro a h
    show a ≤ (if a < cc - 1 ∧ L a < v then ffR cc L v n (a + 1) else a) ∧ (if a < cc - 1 ∧ L a < v then ffR cc L v n (a + 1) else a) ≤ cc - 1
    split
    · have := ih (a + 1) (by omega); omega
    · omega
theorem ffV_b {cc : Int} (hcc : 2 ≤ cc ∧ cc ≤ 12) (L : Int → Int) (v : Int) : 0 ≤ ffV cc L v ∧ ffV cc L v ≤ cc - 1 := ffR_b cc L v 12 0 (by omega)
theorem ffR_s (cc : Int) (L : Int → Int) (v : Int) {a : Int} (ha : 0 ≤ a ∧ a ≤ 11) : ffR cc L v (12 - a).toNat a = if a < cc - 1 ∧ L a < v then ffR cc L v (12 - (a + 1)).toNat (a + 1) else a := by
  have h1 : (12 - a).toNat = (12 - (a + 1)).toNat + 1 := by omega
  rw [h1]; rfl
def bentV (cc : Int) (L V : Int → Int) (v : Int) : Int :=
  if L (max 1 (ffV cc L v)) - L (max 1 (ffV cc L v) - 1) ≤ 0 then V (max 1 (ffV cc L v)) else V (max 1 (ffV cc L v) - 1) + ((V (max 1 (ffV cc L v)) - V (max 1 (ffV cc L v) - 1)) * (v - L (max 1 (ffV cc L v) - 1))).tdiv (L (max 1 (ffV cc L v)) - L (max 1 (ffV cc L v) - 1))
theorem mul_bs {a b A B : Int} (ha : -A ≤ a ∧ a ≤ A) (hb : -B ≤ b ∧ b ≤ B) : -(A * B) ≤ a * b ∧ a * b ≤ A * B := by
  have h1 := Int.mul_nonneg (a := A - a) (b := B - b) (by omega) (by omega)
  have h2 := Int.mul_nonneg (a := A + a) (b := B + b) (by omega) (by omega)
  have h3 := Int.mul_nonneg (a := A - a) (b := B + b) (by omega) (by omega)
  have h4 := Int.mul_nonneg (a := A + a) (b := B - b) (by omega) (by omega)
  simp only [Int.sub_mul, Int.mul_sub, Int.add_mul, Int.mul_add] at h1 h2 h3 h4
  omega
abbrev clL (G : zG) (ce ra : Nat) (n : Nat) (dp br sl : Int) (K : Int → Int) : va_W := [(ce, .inr (1, [.int (zI dp), .int (zI br), .int (zI sl), .ref ra])), ia G ra n K]
def clOK (n : Nat) (dp br sl : Int) (K : Int → Int) : Prop := (1 ≤ dp ∧ dp ≤ 12) ∧ (1 ≤ br ∧ br ≤ 288) ∧ (0 ≤ sl ∧ sl < br) ∧ (n : Int) = dp * br ∧ (n : Int) ≤ 288 ∧ (∀ j, 0 ≤ K j ∧ K j ≤ 1000)
def nmV (dp br sl x y : Int) : Int := (x - y / dp * sl) % br + (y - y / dp * dp) * br
theorem nm_b {dp br sl x y : Int} (hd : 1 ≤ dp ∧ dp ≤ 12) (hb : 1 ≤ br ∧ br ≤ 288) : 0 ≤ nmV dp br sl x y ∧ nmV dp br sl x y < dp * br := by
  have h1 := Int.emod_nonneg (x - y / dp * sl) (show br ≠ 0 by omega)
  have h2 := Int.emod_lt_of_pos (x - y / dp * sl) (show 0 < br by omega)
  have h3 : y - y / dp * dp = y % dp := by have := Int.mul_ediv_add_emod y dp; rw [Int.mul_comm] at this; omega
  have h4 := Int.emod_nonneg y (show dp ≠ 0 by omega)
  have h5 := Int.emod_lt_of_pos y (show 0 < dp by omega)
  have h6 := mul_b (a := y % dp) (b := br) (A := dp - 1) (B := br) (by omega) (by omega)
  rw [Int.sub_mul, Int.one_mul] at h6
  unfold nmV; rw [h3]; omega
theorem dv_b {y d : Int} (hd : 1 ≤ d) (hy : -1000000 ≤ y ∧ y ≤ 1000000) : -1000000 ≤ y / d ∧ y / d ≤ 1000000 := by
  have h1 := Int.mul_ediv_add_emod y d
  have h2 := Int.emod_nonneg y (show d ≠ 0 by omega)
  have h3 := Int.emod_lt_of_pos y (show 0 < d by omega)
  constructor
  · apply Int.not_lt.mp; intro q
    have h4 := Int.mul_le_mul_of_nonneg_left (a := y / d) (b := -1000001) (c := d) (by omega) (by omega)
    omega
  · apply Int.not_lt.mp; intro q
    have h4 := Int.mul_le_mul_of_nonneg_left (a := 1000001) (b := y / d) (c := d) (by omega) (by omega)
    omega
/-- the greatest of 12 .. 2 that divides both, else 1 -/
def cdR (a b : Int) : Nat → Int
  | 0 => 1
  | n + 1 => if a.tmod ((n : Int) + 2) = 0 ∧ b.tmod ((n : Int) + 2) = 0 then (n : Int) + 2 else cdR a b n
theorem cdR_s (a b : Int) {d : Int} (hd : 2 ≤ d) : cdR a b (d - 1).toNat = if a.tmod d = 0 ∧ b.tmod d = 0 then d else cdR a b (d - 2).toNat := by
  have h1 : (d - 1).toNat = (d - 2).toNat + 1 := by omega
  have h2 : (((d - 2).toNat : Nat) : Int) + 2 = d := by omega
  rw [h1]; show (if a.tmod ((((d - 2).toNat : Nat) : Int) + 2) = 0 ∧ b.tmod ((((d - 2).toNat : Nat) : Int) + 2) = 0 then (((d - 2).toNat : Nat) : Int) + 2 else cdR a b (d - 2).toNat) = _
  rw [h2]
/-- sideways: the first (i, j) whose step leads d rows down -/
def fjR (a b d i : Int) : Nat → Option Int
  | 0 => none
  | n + 1 => if b * i + a * (12 - (n : Int)) = d then some (a * i - b * (12 - (n : Int))) else fjR a b d i n
def fiR (a b d : Int) : Nat → Int
  | 0 => 0
  | n + 1 => match fjR a b d (12 - (n : Int)) 25 with
    | some v => v
    | none => fiR a b d n
theorem fjR_s (a b d i : Int) {j : Int} (hj : j ≤ 12) : fjR a b d i (13 - j).toNat = if b * i + a * j = d then some (a * i - b * j) else fjR a b d i (12 - j).toNat := by
  have h1 : (13 - j).toNat = (12 - j).toNat + 1 := by omega
  have h2 : 12 - (((12 - j).toNat : Nat) : Int) = j := by omega
  rw [h1]; show (if b * i + a * (12 - (((12 - j).toNat : Nat) : Int)) = d then some (a * i - b * (12 - (((12 - j).toNat : Nat) : Int))) else fjR a b d i (12 - j).toNat) = _
  rw [h2]
def oor (o : Option Int) (v : Int) : Int := match o with
  | some x => x
  | none => v
theorem fiR_s (a b d : Int) {i : Int} (hi : i ≤ 12) : fiR a b d (13 - i).toNat = oor (fjR a b d i 25) (fiR a b d (12 - i).toNat) := by
  have h1 : (13 - i).toNat = (12 - i).toNat + 1 := by omega
  have h2 : 12 - (((12 - i).toNat : Nat) : Int) = i := by omega
  rw [h1]; show (match fjR a b d (12 - (((12 - i).toNat : Nat) : Int)) 25 with | some v => v | none => fiR a b d (12 - i).toNat) = _
  rw [h2]; rfl

set_option maxHeartbeats 4000000 in
set_option maxRecDepth 100000 in
theorem c_X1_firstFrom (l : Launch) (G : zG) (cv ca cb : Nat) (cc : Int) (L V : Int → Int) (v : Int) (hvv : cvOK cc L V) (h255 : -2147483648 ≤ v ∧ v ≤ 2147483647) : zRd l yX1_firstFrom cX1_firstFrom 3 (some .int) { frames := 0, cells := 0, slots := 0, locals := 0 } G [.ref cv, .int (zI (v))] (cvL G cv ca cb cc L V) (ffV cc L v) := by
  refine Met.ofW (cc := cX1_firstFrom) (maxL := 3) (ret := (some .int)) (by decide) rfl ?_
  intro p e s m args below meth c s₁ B hml hv
  obtain ⟨rfl, hP, hK⟩ := hv
  have hx := B.exec
  have hb := B.bytes
  have hr := B.returns
  have hT : ∀ w ∈ TB, w.before _ s = true := fun w h => atoms_spec (ws := Cond.code yX1_firstFrom cX1_firstFrom 3 (some .int) :: TB) B.pre w (List.mem_cons_of_mem _ h)
  have hown : s.vm.findClass RX1 = some m.cls := findClass_of_methodNamed B.named
  have hlocks := B.notSynchronized
  have hl := lv_entry ([.ref cv, .int (zI (v))]) (n := 3) (Nat.le_of_ble_eq_true rfl)
  rw [lg_entry_eq]
  generalize (lg_sl ([.ref cv, .int (zI (v))]) ++ List.replicate (3 - (lg_sl ([.ref cv, .int (zI (v))])).length) Slot.unset).toArray = ls at hl ⊢
  have hl : lv_has ls 3 [(0, .ref cv), (1, .int (zI (v)))] := hl
  obtain ⟨hcc, hL0, hLe, hLs, hLb, hVb⟩ := id hvv
  refine z_iconst hx hb dX1_firstFrom_0 ?_
  refine lv_istore_n (lv' := [(2, .int (zI (0))), (0, .ref cv), (1, .int (zI (v)))]) hx hb dX1_firstFrom_1 rfl hl (by decide) rfl (fun ls hl => ?_)
  refine z_loop (σ := Int × Array Slot) (fun zq => F0 m 2 (zq.2) []) (fun zq => ((0 ≤ zq.1 ∧ zq.1 ≤ cc - 1) ∧ ffV cc L v = ffR cc L v (12 - zq.1).toNat zq.1) ∧ lv_has (zq.2) 3 [(0, .ref cv), (1, .int (zI (v))), (2, .int (zI (zq.1)))]) (fun zq => (cc - zq.1).toNat) ?_ (0, ls) ⟨⟨by omega, rfl⟩, lv_sub hl [1, 2, 0] rfl⟩
  intro zq hq ih
  obtain ⟨a, ls⟩ := zq
  obtain ⟨⟨hI, hI2⟩, hl⟩ := hq
  try dsimp only at hI hI2 hl ih ⊢
  have ih2 := ih
  refine lv_iload_n hx hb dX1_firstFrom_2 rfl (lv_at hl 2 rfl) ?_
  refine lv_aload_n hx hb dX1_firstFrom_3 rfl (lv_at hl 0 rfl) ?_
  refine gf_X1_18 hx hb hT hown hK hP 0 rfl rfl dX1_firstFrom_4 ?_
  refine z_iconst hx hb dX1_firstFrom_7 ?_
  refine z_isub hx hb dX1_firstFrom_8 ?_
  refine z_icmp_ge (tgt := 28) hx hb dX1_firstFrom_9 (by decide) (by omega) (by omega) (fun h9 => ?_) (fun h9 => ?_)
  · skip
    refine lv_iload_n hx hb dX1_firstFrom_28 rfl (lv_at hl 2 rfl) ?_
    exact z_iret hx hb hr hlocks (by rw [hI2, ffR_s cc L v (by omega), if_neg (by omega)]) dX1_firstFrom_29
  · skip
    have hla := hLb a
    refine lv_aload_n hx hb dX1_firstFrom_12 rfl (lv_at hl 0 rfl) ?_
    refine gf_X1_11 hx hb hT hown hK hP 0 rfl rfl dX1_firstFrom_13 ?_
    refine lv_iload_n hx hb dX1_firstFrom_16 rfl (lv_at hl 2 rfl) ?_
    refine z_iald hx hb hK hP 1 rfl (⟨by omega, by omega, by omega⟩) dX1_firstFrom_17 ?_
    refine lv_iload_n hx hb dX1_firstFrom_18 rfl (lv_at hl 1 rfl) ?_
    refine z_icmp_ge (tgt := 28) hx hb dX1_firstFrom_19 (by decide) (by omega) (by omega) (fun h19 => ?_) (fun h19 => ?_)
    · skip
      refine lv_iload_n hx hb dX1_firstFrom_28 rfl (lv_at hl 2 rfl) ?_
      exact z_iret hx hb hr hlocks (by rw [hI2, ffR_s cc L v (by omega), if_neg (by omega)]) dX1_firstFrom_29
    · skip
      refine lv_iinc (v := zI (a + (1))) (lv' := [(2, .int (zI (a + (1)))), (0, .ref cv), (1, .int (zI (v)))]) hx hb dX1_firstFrom_22 hl (k := 2) rfl (zI_add _ _) (by decide) rfl (fun ls hl => ?_)
      refine z_goto (tgt := 2) hx hb dX1_firstFrom_25 (by decide) ?_
      exact ih2 (a + 1, ls) ⟨⟨by dsimp only; omega, by rw [hI2, ffR_s cc L v (by omega), if_pos ⟨by omega, by omega⟩]⟩, lv_sub hl [1, 2, 0] rfl⟩ (by omega)

set_option maxHeartbeats 4000000 in
set_option maxRecDepth 100000 in
theorem c_X1_hasRoomFor (l : Launch) (G : zG) (cv ca cb : Nat) (cc : Int) (L V : Int → Int) (v : Int) (hvv : cvOK cc L V) (h255 : 0 ≤ v ∧ v ≤ 255) : zRd l yX1_hasRoomFor cX1_hasRoomFor 2 (some .boolean) { frames := 1, cells := 0, slots := 0, locals := 22 } G [.ref cv, .int (zI (v))] (cvL G cv ca cb cc L V) (bI (decide (cc < 12) || decide (L (ffV cc L v) = v))) := by
  refine Met.ofW (cc := cX1_hasRoomFor) (maxL := 2) (ret := (some .boolean)) (by decide) rfl ?_
  intro p e s m args below meth c s₁ B hml hv
  obtain ⟨rfl, hP, hK⟩ := hv
  have hx := B.exec
  have hb := B.bytes
  have hr := B.returns
  have hT : ∀ w ∈ TB, w.before _ s = true := fun w h => atoms_spec (ws := Cond.code yX1_hasRoomFor cX1_hasRoomFor 2 (some .boolean) :: TB) B.pre w (List.mem_cons_of_mem _ h)
  have hown : s.vm.findClass RX1 = some m.cls := findClass_of_methodNamed B.named
  have hlocks := B.notSynchronized
  have hl := lv_entry ([.ref cv, .int (zI (v))]) (n := 2) (Nat.le_of_ble_eq_true rfl)
  rw [lg_entry_eq]
  generalize (lg_sl ([.ref cv, .int (zI (v))]) ++ List.replicate (2 - (lg_sl ([.ref cv, .int (zI (v))])).length) Slot.unset).toArray = ls at hl ⊢
  have hl : lv_has ls 2 [(0, .ref cv), (1, .int (zI (v)))] := hl
  obtain ⟨hcc, hL0, hLe, hLs, hLb, hVb⟩ := id hvv
  refine lv_aload_n hx hb dX1_hasRoomFor_0 rfl (lv_at hl 0 rfl) ?_
  refine gf_X1_18 hx hb hT hown hK hP 0 rfl rfl dX1_hasRoomFor_1 ?_
  refine z_bipush hx hb dX1_hasRoomFor_4 (by decide +kernel) ?_
  refine z_icmp_lt (tgt := 23) hx hb dX1_hasRoomFor_6 (by decide) (by omega) (by omega) (fun h6 => ?_) (fun h6 => ?_)
  · skip
    refine z_iconst hx hb dX1_hasRoomFor_23 ?_
    refine z_goto (tgt := 28) hx hb dX1_hasRoomFor_24 (by decide) ?_
    exact z_zret hx hb hr hlocks (by first | exact Or.inl rfl | exact Or.inr rfl) (by refine bI_cases (fun h9 => ?_) (fun h9 => ?_) <;> first | rfl | (exfalso; simp only [Bool.or_eq_true, Bool.or_eq_false_iff, decide_eq_true_eq, decide_eq_false_iff_not] at h9; omega)) dX1_hasRoomFor_28
  · skip
    have hf := ffV_b hcc L v
    have hlf := hLb (ffV cc L v)
    refine lv_aload_n hx hb dX1_hasRoomFor_9 rfl (lv_at hl 0 rfl) ?_
    refine gf_X1_11 hx hb hT hown hK hP 0 rfl rfl dX1_hasRoomFor_10 ?_
    refine lv_aload_n hx hb dX1_hasRoomFor_13 rfl (lv_at hl 0 rfl) ?_
    refine lv_iload_n hx hb dX1_hasRoomFor_14 rfl (lv_at hl 1 rfl) ?_
    refine z_callV (q0 := 0) (G := G) (As := [.int (zI (v))]) (rest := [.ref ca]) hx hb hml hown hT hK (c_X1_firstFrom l G cv ca cb cc L V (v) hvv (by omega)) kc_X1_22 ⟨Nat.le_of_ble_eq_true rfl, Nat.le_of_ble_eq_true rfl⟩ ⟨rfl, rfl⟩ ⟨Nat.zero_le _, Nat.zero_le _⟩ hP rfl rfl rfl rfl hl.1 rfl (Nat.le_of_ble_eq_true rfl) dX1_hasRoomFor_15 ?_
    refine z_iald hx hb hK hP 1 rfl (⟨by omega, by omega, by omega⟩) dX1_hasRoomFor_18 ?_
    refine lv_iload_n hx hb dX1_hasRoomFor_19 rfl (lv_at hl 1 rfl) ?_
    refine z_icmp_ne (tgt := 27) hx hb dX1_hasRoomFor_20 (by decide) (by omega) (by omega) (fun h20 => ?_) (fun h20 => ?_)
    · skip
      refine z_iconst hx hb dX1_hasRoomFor_27 ?_
      exact z_zret hx hb hr hlocks (by first | exact Or.inl rfl | exact Or.inr rfl) (by refine bI_cases (fun h9 => ?_) (fun h9 => ?_) <;> first | rfl | (exfalso; simp only [Bool.or_eq_true, Bool.or_eq_false_iff, decide_eq_true_eq, decide_eq_false_iff_not] at h9; omega)) dX1_hasRoomFor_28
    · skip
      refine z_iconst hx hb dX1_hasRoomFor_23 ?_
      refine z_goto (tgt := 28) hx hb dX1_hasRoomFor_24 (by decide) ?_
      exact z_zret hx hb hr hlocks (by first | exact Or.inl rfl | exact Or.inr rfl) (by refine bI_cases (fun h9 => ?_) (fun h9 => ?_) <;> first | rfl | (exfalso; simp only [Bool.or_eq_true, Bool.or_eq_false_iff, decide_eq_true_eq, decide_eq_false_iff_not] at h9; omega)) dX1_hasRoomFor_28

set_option maxHeartbeats 4000000 in
set_option maxRecDepth 100000 in
theorem c_X1_bent (l : Launch) (G : zG) (cv ca cb : Nat) (cc : Int) (L V : Int → Int) (v : Int) (hvv : cvOK cc L V) (h255 : 0 ≤ v ∧ v ≤ 255) : zRd l yX1_bent cX1_bent 5 (some .int) { frames := 1, cells := 0, slots := 0, locals := 22 } G [.ref cv, .int (zI (v))] (cvL G cv ca cb cc L V) (bentV cc L V v) := by
  refine Met.ofW (cc := cX1_bent) (maxL := 5) (ret := (some .int)) (by decide) rfl ?_
  intro p e s m args below meth c s₁ B hml hv
  obtain ⟨rfl, hP, hK⟩ := hv
  have hx := B.exec
  have hb := B.bytes
  have hr := B.returns
  have hT : ∀ w ∈ TB, w.before _ s = true := fun w h => atoms_spec (ws := Cond.code yX1_bent cX1_bent 5 (some .int) :: TB) B.pre w (List.mem_cons_of_mem _ h)
  have hown : s.vm.findClass RX1 = some m.cls := findClass_of_methodNamed B.named
  have hlocks := B.notSynchronized
  have hl := lv_entry ([.ref cv, .int (zI (v))]) (n := 5) (Nat.le_of_ble_eq_true rfl)
  rw [lg_entry_eq]
  generalize (lg_sl ([.ref cv, .int (zI (v))]) ++ List.replicate (5 - (lg_sl ([.ref cv, .int (zI (v))])).length) Slot.unset).toArray = ls at hl ⊢
  have hl : lv_has ls 5 [(0, .ref cv), (1, .int (zI (v)))] := hl
  obtain ⟨hcc, hL0, hLe, hLs, hLb, hVb⟩ := id hvv
  have hf := ffV_b hcc L v
  refine z_iconst hx hb dX1_bent_0 ?_
  refine lv_aload_n hx hb dX1_bent_1 rfl (lv_at hl 0 rfl) ?_
  refine lv_iload_n hx hb dX1_bent_2 rfl (lv_at hl 1 rfl) ?_
  refine z_callV (q0 := 0) (G := G) (As := [.int (zI (v))]) (rest := [.int (zI (1))]) hx hb hml hown hT hK (c_X1_firstFrom l G cv ca cb cc L V (v) hvv (by omega)) kc_X1_22 ⟨Nat.le_of_ble_eq_true rfl, Nat.le_of_ble_eq_true rfl⟩ ⟨rfl, rfl⟩ ⟨Nat.zero_le _, Nat.zero_le _⟩ hP rfl rfl rfl rfl hl.1 rfl (Nat.le_of_ble_eq_true rfl) dX1_bent_3 ?_
  refine z_mmax hx hb hml hl.1 hown hT kc_X1_26 ⟨Nat.le_of_ble_eq_true rfl, Nat.le_of_ble_eq_true rfl⟩ ⟨Nat.zero_le _, Nat.zero_le _⟩ (by omega) (by omega) dX1_bent_6 ?_
  obtain ⟨at1, eat1⟩ : ∃ z : Int, z = (max 1 (ffV cc L v)) := ⟨_, rfl⟩
  refine z_top at1 eat1.symm ?_
  have ha1 : 1 ≤ at1 ∧ at1 ≤ cc - 1 := by omega
  have k1 := hLb at1
  have k2 := hLb (at1 - 1)
  have k3 := hVb at1
  have k4 := hVb (at1 - 1)
  have k5 := mul_bs (a := V at1 - V (at1 - 1)) (b := v - L (at1 - 1)) (A := 255) (B := 255) (by omega) (by omega)
  refine lv_istore_n (lv' := [(2, .int (zI (at1))), (0, .ref cv), (1, .int (zI (v)))]) hx hb dX1_bent_9 rfl hl (by decide) rfl (fun ls hl => ?_)
  refine lv_aload_n hx hb dX1_bent_10 rfl (lv_at hl 1 rfl) ?_
  refine gf_X1_11 hx hb hT hown hK hP 0 rfl rfl dX1_bent_11 ?_
  refine lv_iload_n hx hb dX1_bent_14 rfl (lv_at hl 0 rfl) ?_
  refine z_iald hx hb hK hP 1 rfl (⟨by omega, by omega, by omega⟩) dX1_bent_15 ?_
  refine lv_aload_n hx hb dX1_bent_16 rfl (lv_at hl 1 rfl) ?_
  refine gf_X1_11 hx hb hT hown hK hP 0 rfl rfl dX1_bent_17 ?_
  refine lv_iload_n hx hb dX1_bent_20 rfl (lv_at hl 0 rfl) ?_
  refine z_iconst hx hb dX1_bent_21 ?_
  refine z_isub hx hb dX1_bent_22 ?_
  refine z_iald hx hb hK hP 1 rfl (⟨by omega, by omega, by omega⟩) dX1_bent_23 ?_
  refine z_isub hx hb dX1_bent_24 ?_
  refine lv_istore_n (lv' := [(3, .int (zI (((L at1) - (L (at1 - 1)))))), (2, .int (zI (at1))), (0, .ref cv), (1, .int (zI (v)))]) hx hb dX1_bent_25 rfl hl (by decide) rfl (fun ls hl => ?_)
  refine lv_aload_n hx hb dX1_bent_26 rfl (lv_at hl 2 rfl) ?_
  refine gf_X1_15 hx hb hT hown hK hP 0 rfl rfl dX1_bent_27 ?_
  refine lv_iload_n hx hb dX1_bent_30 rfl (lv_at hl 1 rfl) ?_
  refine z_iald hx hb hK hP 2 rfl (⟨by omega, by omega, by omega⟩) dX1_bent_31 ?_
  refine lv_aload_n hx hb dX1_bent_32 rfl (lv_at hl 2 rfl) ?_
  refine gf_X1_15 hx hb hT hown hK hP 0 rfl rfl dX1_bent_33 ?_
  refine lv_iload_n hx hb dX1_bent_36 rfl (lv_at hl 1 rfl) ?_
  refine z_iconst hx hb dX1_bent_37 ?_
  refine z_isub hx hb dX1_bent_38 ?_
  refine z_iald hx hb hK hP 2 rfl (⟨by omega, by omega, by omega⟩) dX1_bent_39 ?_
  refine z_isub hx hb dX1_bent_40 ?_
  refine lv_istore (lv' := [(4, .int (zI (((V at1) - (V (at1 - 1)))))), (3, .int (zI (((L at1) - (L (at1 - 1)))))), (2, .int (zI (at1))), (0, .ref cv), (1, .int (zI (v)))]) hx hb dX1_bent_41 hl (by decide) rfl (fun ls hl => ?_)
  refine lv_iload_n hx hb dX1_bent_43 rfl (lv_at hl 1 rfl) ?_
  refine z_if_gt (tgt := 56) hx hb dX1_bent_44 (by decide) (by omega) (fun h44 => ?_) (fun h44 => ?_)
  · skip
    refine lv_aload_n hx hb dX1_bent_56 rfl (lv_at hl 3 rfl) ?_
    refine gf_X1_15 hx hb hT hown hK hP 0 rfl rfl dX1_bent_57 ?_
    refine lv_iload_n hx hb dX1_bent_60 rfl (lv_at hl 2 rfl) ?_
    refine z_iconst hx hb dX1_bent_61 ?_
    refine z_isub hx hb dX1_bent_62 ?_
    refine z_iald hx hb hK hP 2 rfl (⟨by omega, by omega, by omega⟩) dX1_bent_63 ?_
    refine lv_iload hx hb dX1_bent_64 (lv_at hl 0 rfl) ?_
    refine lv_iload_n hx hb dX1_bent_66 rfl (lv_at hl 4 rfl) ?_
    refine lv_aload_n hx hb dX1_bent_67 rfl (lv_at hl 3 rfl) ?_
    refine gf_X1_11 hx hb hT hown hK hP 0 rfl rfl dX1_bent_68 ?_
    refine lv_iload_n hx hb dX1_bent_71 rfl (lv_at hl 2 rfl) ?_
    refine z_iconst hx hb dX1_bent_72 ?_
    refine z_isub hx hb dX1_bent_73 ?_
    refine z_iald hx hb hK hP 1 rfl (⟨by omega, by omega, by omega⟩) dX1_bent_74 ?_
    refine z_isub hx hb dX1_bent_75 ?_
    refine z_imul hx hb dX1_bent_76 ?_
    refine lv_iload_n hx hb dX1_bent_77 rfl (lv_at hl 1 rfl) ?_
    refine z_itdiv hx hb dX1_bent_78 (by omega) (by omega) (by omega) ?_
    refine z_iadd hx hb dX1_bent_79 ?_
    exact z_iret hx hb hr hlocks (by unfold bentV; rw [← eat1]; split <;> first | rfl | omega) dX1_bent_80
  · skip
    refine lv_aload_n hx hb dX1_bent_47 rfl (lv_at hl 3 rfl) ?_
    refine gf_X1_15 hx hb hT hown hK hP 0 rfl rfl dX1_bent_48 ?_
    refine lv_iload_n hx hb dX1_bent_51 rfl (lv_at hl 2 rfl) ?_
    refine z_iald hx hb hK hP 2 rfl (⟨by omega, by omega, by omega⟩) dX1_bent_52 ?_
    refine z_goto (tgt := 80) hx hb dX1_bent_53 (by decide) ?_
    exact z_iret hx hb hr hlocks (by unfold bentV; rw [← eat1]; split <;> first | rfl | omega) dX1_bent_80

set_option maxHeartbeats 4000000 in
set_option maxRecDepth 100000 in
theorem c_X0_numberOf (l : Launch) (G : zG) (ce ra : Nat) (n : Nat) (dp br sl : Int) (K : Int → Int) (x y : Int) (hdp : 1 ≤ dp ∧ dp ≤ 12) (hbr : 1 ≤ br ∧ br ≤ 288) (hsl : 0 ≤ sl ∧ sl < br) (hxx : -1000000 ≤ x ∧ x ≤ 1000000) (hyy : -1000000 ≤ y ∧ y ≤ 1000000) : zRd l yX0_numberOf cX0_numberOf 4 (some .int) { frames := 1, cells := 0, slots := 0, locals := 22 } G [.ref ce, .int (zI (x)), .int (zI (y))] (clL G ce ra n dp br sl K) (nmV dp br sl x y) := by
  refine Met.ofW (cc := cX0_numberOf) (maxL := 4) (ret := (some .int)) (by decide) rfl ?_
  intro p e s m args below meth c s₁ B hml hv
  obtain ⟨rfl, hP, hK⟩ := hv
  have hx := B.exec
  have hb := B.bytes
  have hr := B.returns
  have hT : ∀ w ∈ TB, w.before _ s = true := fun w h => atoms_spec (ws := Cond.code yX0_numberOf cX0_numberOf 4 (some .int) :: TB) B.pre w (List.mem_cons_of_mem _ h)
  have hown : s.vm.findClass RX0 = some m.cls := findClass_of_methodNamed B.named
  have hlocks := B.notSynchronized
  have hl := lv_entry ([.ref ce, .int (zI (x)), .int (zI (y))]) (n := 4) (Nat.le_of_ble_eq_true rfl)
  rw [lg_entry_eq]
  generalize (lg_sl ([.ref ce, .int (zI (x)), .int (zI (y))]) ++ List.replicate (4 - (lg_sl ([.ref ce, .int (zI (x)), .int (zI (y))])).length) Slot.unset).toArray = ls at hl ⊢
  have hl : lv_has ls 4 [(0, .ref ce), (1, .int (zI (x))), (2, .int (zI (y)))] := hl
  have hk1 := dv_b (d := dp) (by omega) hyy
  have hk2 := mul_bs (a := y / dp) (b := sl) (A := 1000000) (B := 288) (by omega) (by omega)
  refine lv_iload_n hx hb dX0_numberOf_0 rfl (lv_at hl 2 rfl) ?_
  refine lv_aload_n hx hb dX0_numberOf_1 rfl (lv_at hl 0 rfl) ?_
  refine gf_X0_15 hx hb hT hown hK hP 0 rfl rfl dX0_numberOf_2 ?_
  refine z_callS (G := G) (As := [.int (zI (y)), .int (zI (dp))]) (rest := []) hx hb hml hown hT hK (c_J9_floorDiv_7cf53 l G (y) (dp) (by omega) (by omega)) kc_X0_49 ⟨Nat.le_of_ble_eq_true rfl, Nat.le_of_ble_eq_true rfl⟩ ⟨rfl, rfl⟩ ⟨Nat.zero_le _, Nat.zero_le _⟩ (hP.sub [] rfl) rfl hl.1 rfl (Nat.le_of_ble_eq_true rfl) dX0_numberOf_5 ?_
  refine lv_istore_n (lv' := [(3, .int (zI ((y / dp)))), (0, .ref ce), (1, .int (zI (x))), (2, .int (zI (y)))]) hx hb dX0_numberOf_8 rfl hl (by decide) rfl (fun ls hl => ?_)
  refine lv_iload_n hx hb dX0_numberOf_9 rfl (lv_at hl 2 rfl) ?_
  refine lv_iload_n hx hb dX0_numberOf_10 rfl (lv_at hl 0 rfl) ?_
  refine lv_aload_n hx hb dX0_numberOf_11 rfl (lv_at hl 1 rfl) ?_
  refine gf_X0_34 hx hb hT hown hK hP 0 rfl rfl dX0_numberOf_12 ?_
  refine z_imul hx hb dX0_numberOf_15 ?_
  refine z_isub hx hb dX0_numberOf_16 ?_
  refine lv_aload_n hx hb dX0_numberOf_17 rfl (lv_at hl 1 rfl) ?_
  refine gf_X0_24 hx hb hT hown hK hP 0 rfl rfl dX0_numberOf_18 ?_
  refine z_callS (G := G) (As := [.int (zI ((x - ((y / dp) * sl)))), .int (zI (br))]) (rest := []) hx hb hml hown hT hK (c_J9_floorMod_7cf53 l G ((x - ((y / dp) * sl))) (br) (by omega) (by omega)) kc_X0_31 ⟨Nat.le_of_ble_eq_true rfl, Nat.le_of_ble_eq_true rfl⟩ ⟨rfl, rfl⟩ ⟨Nat.zero_le _, Nat.zero_le _⟩ (hP.sub [] rfl) rfl hl.1 rfl (Nat.le_of_ble_eq_true rfl) dX0_numberOf_21 ?_
  refine lv_iload_n hx hb dX0_numberOf_24 rfl (lv_at hl 3 rfl) ?_
  refine lv_iload_n hx hb dX0_numberOf_25 rfl (lv_at hl 0 rfl) ?_
  refine lv_aload_n hx hb dX0_numberOf_26 rfl (lv_at hl 1 rfl) ?_
  refine gf_X0_15 hx hb hT hown hK hP 0 rfl rfl dX0_numberOf_27 ?_
  refine z_imul hx hb dX0_numberOf_30 ?_
  refine z_isub hx hb dX0_numberOf_31 ?_
  refine lv_aload_n hx hb dX0_numberOf_32 rfl (lv_at hl 1 rfl) ?_
  refine gf_X0_24 hx hb hT hown hK hP 0 rfl rfl dX0_numberOf_33 ?_
  refine z_imul hx hb dX0_numberOf_36 ?_
  refine z_iadd hx hb dX0_numberOf_37 ?_
  exact z_iret hx hb hr hlocks (rfl) dX0_numberOf_38

set_option maxHeartbeats 4000000 in
set_option maxRecDepth 100000 in
theorem c_X0_takes (l : Launch) (G : zG) (ce ra : Nat) (n : Nat) (dp br sl : Int) (K : Int → Int) (v x y : Int) (hcl : clOK n dp br sl K) (hv1 : 0 ≤ v ∧ v ≤ 255) (hxx : -1000000 ≤ x ∧ x ≤ 1000000) (hyy : -1000000 ≤ y ∧ y ≤ 1000000) : zRd l yX0_takes cX0_takes 4 (some .boolean) { frames := 2, cells := 0, slots := 0, locals := 45 } G [.ref ce, .int (zI (v)), .int (zI (x)), .int (zI (y))] (clL G ce ra n dp br sl K) (bI (decide (K (nmV dp br sl x y) < (v * n + 127) / 255))) := by
  refine Met.ofW (cc := cX0_takes) (maxL := 4) (ret := (some .boolean)) (by decide) rfl ?_
  intro p e s m args below meth c s₁ B hml hv
  obtain ⟨rfl, hP, hK⟩ := hv
  have hx := B.exec
  have hb := B.bytes
  have hr := B.returns
  have hT : ∀ w ∈ TB, w.before _ s = true := fun w h => atoms_spec (ws := Cond.code yX0_takes cX0_takes 4 (some .boolean) :: TB) B.pre w (List.mem_cons_of_mem _ h)
  have hown : s.vm.findClass RX0 = some m.cls := findClass_of_methodNamed B.named
  have hlocks := B.notSynchronized
  have hl := lv_entry ([.ref ce, .int (zI (v)), .int (zI (x)), .int (zI (y))]) (n := 4) (Nat.le_of_ble_eq_true rfl)
  rw [lg_entry_eq]
  generalize (lg_sl ([.ref ce, .int (zI (v)), .int (zI (x)), .int (zI (y))]) ++ List.replicate (4 - (lg_sl ([.ref ce, .int (zI (v)), .int (zI (x)), .int (zI (y))])).length) Slot.unset).toArray = ls at hl ⊢
  have hl : lv_has ls 4 [(0, .ref ce), (1, .int (zI (v))), (2, .int (zI (x))), (3, .int (zI (y)))] := hl
  obtain ⟨hdp, hbr, hsl, hn, hn2, hKb⟩ := id hcl
  have hnb := nm_b (sl := sl) (x := x) (y := y) hdp hbr
  have hk9 := hKb (nmV dp br sl x y)
  have hvn := mul_b (a := v) (b := (n : Int)) (A := 255) (B := 288) (by omega) (by omega)
  refine lv_aload_n hx hb dX0_takes_0 rfl (lv_at hl 0 rfl) ?_
  refine gf_X0_37 hx hb hT hown hK hP 0 rfl rfl dX0_takes_1 ?_
  refine lv_aload_n hx hb dX0_takes_4 rfl (lv_at hl 0 rfl) ?_
  refine lv_iload_n hx hb dX0_takes_5 rfl (lv_at hl 2 rfl) ?_
  refine lv_iload_n hx hb dX0_takes_6 rfl (lv_at hl 3 rfl) ?_
  refine z_callV (q0 := 0) (G := G) (As := [.int (zI (x)), .int (zI (y))]) (rest := [.ref ra]) hx hb hml hown hT hK (c_X0_numberOf l G ce ra n dp br sl K (x) (y) hdp hbr hsl (by omega) (by omega)) kc_X0_52 ⟨Nat.le_of_ble_eq_true rfl, Nat.le_of_ble_eq_true rfl⟩ ⟨rfl, rfl⟩ ⟨Nat.zero_le _, Nat.zero_le _⟩ hP rfl rfl rfl rfl hl.1 rfl (Nat.le_of_ble_eq_true rfl) dX0_takes_7 ?_
  refine z_iald hx hb hK hP 1 rfl (⟨by omega, by omega, by omega⟩) dX0_takes_10 ?_
  refine lv_iload_n hx hb dX0_takes_11 rfl (lv_at hl 1 rfl) ?_
  refine lv_aload_n hx hb dX0_takes_12 rfl (lv_at hl 0 rfl) ?_
  refine gf_X0_37 hx hb hT hown hK hP 0 rfl rfl dX0_takes_13 ?_
  refine z_alen hx hb hK hP 1 rfl dX0_takes_16 ?_
  refine z_imul hx hb dX0_takes_17 ?_
  refine z_bipush hx hb dX0_takes_18 (by decide +kernel) ?_
  refine z_iadd hx hb dX0_takes_20 ?_
  refine z_sipush hx hb dX0_takes_21 (by decide +kernel) ?_
  refine z_idiv hx hb dX0_takes_24 (by omega) (by omega) ?_
  refine z_icmp_ge (tgt := 32) hx hb dX0_takes_25 (by decide) (by omega) (by omega) (fun h25 => ?_) (fun h25 => ?_)
  · skip
    refine z_iconst hx hb dX0_takes_32 ?_
    exact z_zret hx hb hr hlocks (by first | exact Or.inl rfl | exact Or.inr rfl) (by refine bI_cases (fun h9 => ?_) (fun h9 => ?_) <;> first | rfl | (exfalso; simp only [decide_eq_true_eq, decide_eq_false_iff_not] at h9; omega)) dX0_takes_33
  · skip
    refine z_iconst hx hb dX0_takes_28 ?_
    refine z_goto (tgt := 33) hx hb dX0_takes_29 (by decide) ?_
    exact z_zret hx hb hr hlocks (by first | exact Or.inl rfl | exact Or.inr rfl) (by refine bI_cases (fun h9 => ?_) (fun h9 => ?_) <;> first | rfl | (exfalso; simp only [decide_eq_true_eq, decide_eq_false_iff_not] at h9; omega)) dX0_takes_33

set_option maxHeartbeats 4000000 in
set_option maxRecDepth 100000 in
theorem c_X0_commonDivisor (l : Launch) (G : zG) (a b : Int) (ha : -100 ≤ a ∧ a ≤ 100) (hb1 : -100 ≤ b ∧ b ≤ 100) : zRd l yX0_commonDivisor cX0_commonDivisor 3 (some .int) { frames := 0, cells := 0, slots := 0, locals := 0 } G [.int (zI (a)), .int (zI (b))] ([]) (cdR a b 11) := by
  refine Met.ofW (cc := cX0_commonDivisor) (maxL := 3) (ret := (some .int)) (by decide) rfl ?_
  intro p e s m args below meth c s₁ B hml hv
  obtain ⟨rfl, hP, hK⟩ := hv
  have hx := B.exec
  have hb := B.bytes
  have hr := B.returns
  have hT : ∀ w ∈ TB, w.before _ s = true := fun w h => atoms_spec (ws := Cond.code yX0_commonDivisor cX0_commonDivisor 3 (some .int) :: TB) B.pre w (List.mem_cons_of_mem _ h)
  have hown : s.vm.findClass RX0 = some m.cls := findClass_of_methodNamed B.named
  have hlocks := B.notSynchronized
  have hl := lv_entry ([.int (zI (a)), .int (zI (b))]) (n := 3) (Nat.le_of_ble_eq_true rfl)
  rw [lg_entry_eq]
  generalize (lg_sl ([.int (zI (a)), .int (zI (b))]) ++ List.replicate (3 - (lg_sl ([.int (zI (a)), .int (zI (b))])).length) Slot.unset).toArray = ls at hl ⊢
  have hl : lv_has ls 3 [(0, .int (zI (a))), (1, .int (zI (b)))] := hl
  refine z_bipush hx hb dX0_commonDivisor_0 (by decide +kernel) ?_
  refine lv_istore_n (lv' := [(2, .int (zI (12))), (0, .int (zI (a))), (1, .int (zI (b)))]) hx hb dX0_commonDivisor_2 rfl hl (by decide) rfl (fun ls hl => ?_)
  refine z_loop (σ := Int × Array Slot) (fun zq => F0 m 3 (zq.2) []) (fun zq => ((1 ≤ zq.1 ∧ zq.1 ≤ 12) ∧ cdR a b 11 = cdR a b (zq.1 - 1).toNat) ∧ lv_has (zq.2) 3 [(0, .int (zI (a))), (1, .int (zI (b))), (2, .int (zI (zq.1)))]) (fun zq => zq.1.toNat) ?_ (12, ls) ⟨⟨by omega, rfl⟩, lv_sub hl [1, 2, 0] rfl⟩
  intro zq hq ih
  obtain ⟨d, ls⟩ := zq
  obtain ⟨⟨hI, hI2⟩, hl⟩ := hq
  try dsimp only at hI hI2 hl ih ⊢
  have ih3 := ih
  refine lv_iload_n hx hb dX0_commonDivisor_3 rfl (lv_at hl 2 rfl) ?_
  refine z_iconst hx hb dX0_commonDivisor_4 ?_
  refine z_icmp_le (tgt := 28) hx hb dX0_commonDivisor_5 (by decide) (by omega) (by omega) (fun h5 => ?_) (fun h5 => ?_)
  · skip
    refine z_iconst hx hb dX0_commonDivisor_28 ?_
    exact z_iret hx hb hr hlocks (by have h9 : d = 1 := (by omega); rw [hI2, h9]; rfl) dX0_commonDivisor_29
  · skip
    refine lv_iload_n hx hb dX0_commonDivisor_8 rfl (lv_at hl 0 rfl) ?_
    refine lv_iload_n hx hb dX0_commonDivisor_9 rfl (lv_at hl 2 rfl) ?_
    refine z_itrem hx hb dX0_commonDivisor_10 (by omega) (by omega) (by omega) ?_
    have ht1 := tmod_bounds (a := a) (M := d) (by omega)
    refine z_if_ne (tgt := 22) hx hb dX0_commonDivisor_11 (by decide) (by omega) (fun h11 => ?_) (fun h11 => ?_)
    · skip
      refine lv_iinc (v := zI (d + (-1))) (lv' := [(2, .int (zI (d + (-1)))), (0, .int (zI (a))), (1, .int (zI (b)))]) hx hb dX0_commonDivisor_22 hl (k := 2) rfl (zI_add _ _) (by decide) rfl (fun ls hl => ?_)
      refine z_goto (tgt := 3) hx hb dX0_commonDivisor_25 (by decide) ?_
      exact ih3 (d + (-1), ls) ⟨⟨by dsimp only; omega, by dsimp only; rw [hI2, cdR_s a b (by omega), if_neg (fun h9 => by first | exact h11 h9.1 | exact h17 h9.2), show d + -1 - 1 = d - 2 by omega]⟩, lv_sub hl [1, 2, 0] rfl⟩ (by omega)
    · skip
      refine lv_iload_n hx hb dX0_commonDivisor_14 rfl (lv_at hl 1 rfl) ?_
      refine lv_iload_n hx hb dX0_commonDivisor_15 rfl (lv_at hl 2 rfl) ?_
      refine z_itrem hx hb dX0_commonDivisor_16 (by omega) (by omega) (by omega) ?_
      have ht2 := tmod_bounds (a := b) (M := d) (by omega)
      refine z_if_ne (tgt := 22) hx hb dX0_commonDivisor_17 (by decide) (by omega) (fun h17 => ?_) (fun h17 => ?_)
      · skip
        refine lv_iinc (v := zI (d + (-1))) (lv' := [(2, .int (zI (d + (-1)))), (0, .int (zI (a))), (1, .int (zI (b)))]) hx hb dX0_commonDivisor_22 hl (k := 2) rfl (zI_add _ _) (by decide) rfl (fun ls hl => ?_)
        refine z_goto (tgt := 3) hx hb dX0_commonDivisor_25 (by decide) ?_
        exact ih3 (d + (-1), ls) ⟨⟨by dsimp only; omega, by dsimp only; rw [hI2, cdR_s a b (by omega), if_neg (fun h9 => by first | exact h11 h9.1 | exact h17 h9.2), show d + -1 - 1 = d - 2 by omega]⟩, lv_sub hl [1, 2, 0] rfl⟩ (by omega)
      · skip
        refine lv_iload_n hx hb dX0_commonDivisor_20 rfl (lv_at hl 2 rfl) ?_
        exact z_iret hx hb hr hlocks (by rw [hI2, cdR_s a b (by omega), if_pos ⟨h11, h17⟩]) dX0_commonDivisor_21

set_option maxHeartbeats 4000000 in
set_option maxRecDepth 100000 in
theorem c_X0_sideways (l : Launch) (G : zG) (a b dn : Int) (ha : -12 ≤ a ∧ a ≤ 12) (hb1 : -12 ≤ b ∧ b ≤ 12) (hdn : 0 ≤ dn ∧ dn ≤ 300) : zRd l yX0_sideways cX0_sideways 5 (some .int) { frames := 0, cells := 0, slots := 0, locals := 0 } G [.int (zI (a)), .int (zI (b)), .int (zI (dn))] ([]) (fiR a b dn 25) := by
  refine Met.ofW (cc := cX0_sideways) (maxL := 5) (ret := (some .int)) (by decide) rfl ?_
  intro p e s m args below meth c s₁ B hml hv
  obtain ⟨rfl, hP, hK⟩ := hv
  have hx := B.exec
  have hb := B.bytes
  have hr := B.returns
  have hT : ∀ w ∈ TB, w.before _ s = true := fun w h => atoms_spec (ws := Cond.code yX0_sideways cX0_sideways 5 (some .int) :: TB) B.pre w (List.mem_cons_of_mem _ h)
  have hown : s.vm.findClass RX0 = some m.cls := findClass_of_methodNamed B.named
  have hlocks := B.notSynchronized
  have hl := lv_entry ([.int (zI (a)), .int (zI (b)), .int (zI (dn))]) (n := 5) (Nat.le_of_ble_eq_true rfl)
  rw [lg_entry_eq]
  generalize (lg_sl ([.int (zI (a)), .int (zI (b)), .int (zI (dn))]) ++ List.replicate (5 - (lg_sl ([.int (zI (a)), .int (zI (b)), .int (zI (dn))])).length) Slot.unset).toArray = ls at hl ⊢
  have hl : lv_has ls 5 [(0, .int (zI (a))), (1, .int (zI (b))), (2, .int (zI (dn)))] := hl
  refine z_bipush hx hb dX0_sideways_0 (by decide +kernel) ?_
  refine lv_istore_n (lv' := [(3, .int (zI ((-12)))), (0, .int (zI (a))), (1, .int (zI (b))), (2, .int (zI (dn)))]) hx hb dX0_sideways_2 rfl hl (by decide) rfl (fun ls hl => ?_)
  refine z_loop (σ := Int × Array Slot) (fun zq => F0 m 3 (zq.2) []) (fun zq => ((-12 ≤ zq.1 ∧ zq.1 ≤ 13) ∧ fiR a b dn 25 = fiR a b dn (13 - zq.1).toNat) ∧ lv_has (zq.2) 5 [(0, .int (zI (a))), (1, .int (zI (b))), (2, .int (zI (dn))), (3, .int (zI (zq.1)))]) (fun zq => (13 - zq.1).toNat) ?_ ((-12), ls) ⟨⟨by dsimp only; omega, rfl⟩, lv_sub hl [1, 2, 3, 0] rfl⟩
  intro zq hq ih
  obtain ⟨i, ls⟩ := zq
  obtain ⟨⟨hI, hI2⟩, hl⟩ := hq
  try dsimp only at hI hI2 hl ih ⊢
  have ih3 := ih
  refine lv_iload_n hx hb dX0_sideways_3 rfl (lv_at hl 3 rfl) ?_
  refine z_bipush hx hb dX0_sideways_4 (by decide +kernel) ?_
  refine z_icmp_gt (tgt := 53) hx hb dX0_sideways_6 (by decide) (by omega) (by omega) (fun h6 => ?_) (fun h6 => ?_)
  · skip
    refine z_iconst hx hb dX0_sideways_53 ?_
    exact z_iret hx hb hr hlocks (by rw [hI2, show (13 - i).toNat = 0 by omega]; rfl) dX0_sideways_54
  · skip
    refine z_bipush hx hb dX0_sideways_9 (by decide +kernel) ?_
    refine lv_istore (lv' := [(4, .int (zI ((-12)))), (0, .int (zI (a))), (1, .int (zI (b))), (2, .int (zI (dn))), (3, .int (zI (i)))]) hx hb dX0_sideways_11 hl (by decide) rfl (fun ls hl => ?_)
    refine z_loop (σ := Int × Array Slot) (fun zq => F0 m 13 (zq.2) []) (fun zq => ((-12 ≤ zq.1 ∧ zq.1 ≤ 13) ∧ fiR a b dn 25 = oor (fjR a b dn i (13 - zq.1).toNat) (fiR a b dn (12 - i).toNat)) ∧ lv_has (zq.2) 5 [(0, .int (zI (a))), (1, .int (zI (b))), (2, .int (zI (dn))), (3, .int (zI (i))), (4, .int (zI (zq.1)))]) (fun zq => (13 - zq.1).toNat) ?_ ((-12), ls) ⟨⟨by dsimp only; omega, by dsimp only; rw [hI2, fiR_s a b dn (by omega)]; rfl⟩, lv_sub hl [1, 2, 3, 4, 0] rfl⟩
    intro zq hq ih
    obtain ⟨j, ls⟩ := zq
    obtain ⟨⟨hJ, hJ2⟩, hl⟩ := hq
    try dsimp only at hJ hJ2 hl ih ⊢
    have ih13 := ih
    refine lv_iload hx hb dX0_sideways_13 (lv_at hl 4 rfl) ?_
    refine z_bipush hx hb dX0_sideways_15 (by decide +kernel) ?_
    refine z_icmp_gt (tgt := 47) hx hb dX0_sideways_17 (by decide) (by omega) (by omega) (fun h17 => ?_) (fun h17 => ?_)
    · skip
      refine lv_iinc (v := zI (i + (1))) (lv' := [(3, .int (zI (i + (1)))), (0, .int (zI (a))), (1, .int (zI (b))), (2, .int (zI (dn))), (4, .int (zI (j)))]) hx hb dX0_sideways_47 hl (k := 3) rfl (zI_add _ _) (by decide) rfl (fun ls hl => ?_)
      refine z_goto (tgt := 3) hx hb dX0_sideways_50 (by decide) ?_
      exact ih3 (i + 1, ls) ⟨⟨by dsimp only; omega, by dsimp only; rw [hJ2, show (13 - j).toNat = 0 by omega, show 13 - (i + 1) = 12 - i by omega]; rfl⟩, lv_sub hl [1, 2, 3, 0] rfl⟩ (by omega)
    · skip
      have m1 := mul_bs (a := b) (b := i) (A := 12) (B := 12) (by omega) (by omega)
      have m2 := mul_bs (a := a) (b := j) (A := 12) (B := 12) (by omega) (by omega)
      have m3 := mul_bs (a := a) (b := i) (A := 12) (B := 12) (by omega) (by omega)
      have m4 := mul_bs (a := b) (b := j) (A := 12) (B := 12) (by omega) (by omega)
      refine lv_iload_n hx hb dX0_sideways_20 rfl (lv_at hl 1 rfl) ?_
      refine lv_iload_n hx hb dX0_sideways_21 rfl (lv_at hl 3 rfl) ?_
      refine z_imul hx hb dX0_sideways_22 ?_
      refine lv_iload_n hx hb dX0_sideways_23 rfl (lv_at hl 0 rfl) ?_
      refine lv_iload hx hb dX0_sideways_24 (lv_at hl 4 rfl) ?_
      refine z_imul hx hb dX0_sideways_26 ?_
      refine z_iadd hx hb dX0_sideways_27 ?_
      refine lv_iload_n hx hb dX0_sideways_28 rfl (lv_at hl 2 rfl) ?_
      refine z_icmp_ne (tgt := 41) hx hb dX0_sideways_29 (by decide) (by omega) (by omega) (fun h29 => ?_) (fun h29 => ?_)
      · skip
        refine lv_iinc (v := zI (j + (1))) (lv' := [(4, .int (zI (j + (1)))), (0, .int (zI (a))), (1, .int (zI (b))), (2, .int (zI (dn))), (3, .int (zI (i)))]) hx hb dX0_sideways_41 hl (k := 4) rfl (zI_add _ _) (by decide) rfl (fun ls hl => ?_)
        refine z_goto (tgt := 13) hx hb dX0_sideways_44 (by decide) ?_
        exact ih13 (j + 1, ls) ⟨⟨by dsimp only; omega, by dsimp only; rw [hJ2, fjR_s a b dn i (by omega), if_neg h29, show 13 - (j + 1) = 12 - j by omega]⟩, lv_sub hl [1, 2, 3, 4, 0] rfl⟩ (by omega)
      · skip
        refine lv_iload_n hx hb dX0_sideways_32 rfl (lv_at hl 0 rfl) ?_
        refine lv_iload_n hx hb dX0_sideways_33 rfl (lv_at hl 3 rfl) ?_
        refine z_imul hx hb dX0_sideways_34 ?_
        refine lv_iload_n hx hb dX0_sideways_35 rfl (lv_at hl 1 rfl) ?_
        refine lv_iload hx hb dX0_sideways_36 (lv_at hl 4 rfl) ?_
        refine z_imul hx hb dX0_sideways_38 ?_
        refine z_isub hx hb dX0_sideways_39 ?_
        exact z_iret hx hb hr hlocks (by rw [hJ2, fjR_s a b dn i (by omega), if_pos h29]; rfl) dX0_sideways_40
end
section
/-! ===== the reference: its cells, what holds of them, what it reads ===== -/
abbrev mdL (G : zG) (md ma mb mc mt m1 m2 m3 m4 m5 m6 m7 : Nat) (th w h cnt most rch tl nc : Int) (M Y C T CA CB CN CG CS Z K : Int → Int) : va_W := [(md, .inr (6, [.int (zI th), .int (zI w), .int (zI h), .int (zI cnt), .ref ma, .ref mb, .ref mc, .int (zI most), .int (zI rch), .ref mt, .int (zI tl), .int (zI nc), .ref m1, .ref m2, .ref m3, .ref m4, .ref m5, .ref m6, .ref m7])), ia G ma 32 M, ia G mb 1536 Y, ia G mc 8 C, ia G mt 256 T, ia G m1 6 CA, ia G m2 6 CB, ia G m3 6 CN, ia G m4 6 CG, ia G m5 6 CS, ia G m6 1800 Z, ia G m7 1800 K]
def clIn (CN CG CS : Int → Int) (c : Int) : Prop := (1 ≤ CG c ∧ CG c ≤ 12) ∧ (1 ≤ CN c ∧ CN c ≤ 288) ∧ (-300 ≤ CS c ∧ CS c ≤ 300) ∧ CG c * (CN c / CG c) = CN c
def mdOK (w h cnt most rch tl nc : Int) (M Y C T CN CG CS K : Int → Int) : Prop := (1 ≤ w ∧ w ≤ 16) ∧ (1 ≤ h ∧ h ≤ 12) ∧ (4 ≤ cnt ∧ cnt ≤ 8) ∧ (0 ≤ most ∧ most ≤ 2040) ∧ (0 ≤ rch ∧ rch ≤ 3) ∧ (∀ j, 0 ≤ M j ∧ M j ≤ 255) ∧ (∀ j, 0 ≤ Y j ∧ Y j ≤ 255) ∧ (∀ j, -1 ≤ C j ∧ C j ≤ 255) ∧ (∀ j, -1 ≤ T j ∧ T j ≤ 255) ∧ T 0 ≠ -1 ∧ T 255 ≠ -1 ∧ (2 ≤ tl ∧ tl ≤ 12) ∧ (0 ≤ nc ∧ nc ≤ 6) ∧ (∀ c, 0 ≤ c → c < nc → clIn CN CG CS c) ∧ (∀ j, 0 ≤ K j ∧ K j ≤ 1000)
theorem md_pts {w h cnt most rch tl nc : Int} {M Y C T CN CG CS K : Int → Int} (hm : mdOK w h cnt most rch tl nc M Y C T CN CG CS K) : 1 ≤ w * h ∧ w * h ≤ 192 := by
  obtain ⟨hw, hh, -⟩ := hm
  have h1 := mul_b (a := w - 1) (b := h) (A := 15) (B := 12) (by omega) (by omega)
  have h2 : (w - 1) * h = w * h - h := by rw [Int.sub_mul, Int.one_mul]
  omega
/-- the plates as the class lays them, out of the reference's bytes -/
def PPf (Y : Int → Int) (w pts : Int) : Int → Int := fun j => Y (8 * (16 * (j % pts / w) + j % pts % w) + j / pts)
theorem qr {a b r : Int} (hb : 0 < b) (hr : 0 ≤ r ∧ r < b) : (r + b * a) % b = r ∧ (r + b * a) / b = a := by
  constructor
  · rw [Int.add_mul_emod_self_left, Int.emod_eq_of_lt hr.1 hr.2]
  · rw [Int.add_mul_ediv_left _ _ (by omega), Int.ediv_eq_zero_of_lt hr.1 hr.2, Int.zero_add]
theorem PP_at (Y : Int → Int) {w pts x y k : Int} (hx : 0 ≤ x ∧ x < w) (hq : 0 ≤ x + w * y ∧ x + w * y < pts) : PPf Y w pts (k * pts + (x + w * y)) = Y (8 * (16 * y + x) + k) := by
  have h1 := qr (a := k) (b := pts) (r := x + w * y) (by omega) hq
  have h2 := qr (a := y) (b := w) (r := x) (by omega) hx
  have h3 : k * pts + (x + w * y) = x + w * y + pts * k := by rw [Int.mul_comm]; omega
  unfold PPf
  rw [h3, h1.1, h1.2, h2.1, h2.2]
theorem PP_q (Y : Int → Int) {w pts q k : Int} (hq : 0 ≤ q ∧ q < pts) : PPf Y w pts (k * pts + q) = Y (8 * (16 * (q / w) + q % w) + k) := by
  have h1 := qr (a := k) (b := pts) (r := q) (by omega) hq
  have h3 : k * pts + q = q + pts * k := by rw [Int.mul_comm]; omega
  unfold PPf
  rw [h3, h1.1, h1.2]
theorem q_xy {w h q : Int} (hw : 1 ≤ w) (hq : 0 ≤ q ∧ q < w * h) : (0 ≤ q % w ∧ q % w < w) ∧ (0 ≤ q / w ∧ q / w < h) := by
  refine ⟨⟨Int.emod_nonneg q (by omega), Int.emod_lt_of_pos q (by omega)⟩, Int.ediv_nonneg hq.1 (by omega), ?_⟩
  apply Int.not_le.mp; intro c
  have h1 := Int.mul_ediv_add_emod q w
  have h2 := Int.emod_nonneg q (show w ≠ 0 by omega)
  have h3 := Int.mul_le_mul_of_nonneg_left (a := h) (b := q / w) (c := w) c (by omega)
  omega
theorem unl_self (P : Int → Int) (pts cnt p : Int) : unlB P pts cnt p p = false := by
  unfold unlB
  have h1 : (fun k => mk25 P pts p k && mk25 P pts p k) = mk25 P pts p := by funext k; simp
  rw [h1]; cases anyB (mk25 P pts p) cnt.toNat <;> rfl
theorem nmV_mod {dp br sl x y : Int} : nmV dp br (sl % br) x y = nmV dp br sl x y := by
  unfold nmV
  have h1 : x - y / dp * (sl % br) = x - y / dp * sl + br * (y / dp * (sl / br)) := by
    have := Int.mul_ediv_add_emod sl br
    have h2 : y / dp * sl = y / dp * (br * (sl / br)) + y / dp * (sl % br) := by rw [← Int.mul_add, this]
    have h3 : y / dp * (br * (sl / br)) = br * (y / dp * (sl / br)) := by rw [← Int.mul_assoc, Int.mul_comm (y / dp) br, Int.mul_assoc]
    omega
  rw [h1, Int.add_mul_emod_self_left]

set_option maxHeartbeats 4000000 in
set_option maxRecDepth 100000 in
theorem c_X5_thrown (l : Launch) (G : zG) (md ma mb mc mt m1 m2 m3 m4 m5 m6 m7 : Nat) (th w h cnt most rch tl nc : Int) (M Y C T CA CB CN CG CS Z K : Int → Int)  : zRd l yX5_thrown cX5_thrown 1 (some .int) { frames := 0, cells := 0, slots := 0, locals := 0 } G [.ref md] (mdL G md ma mb mc mt m1 m2 m3 m4 m5 m6 m7 th w h cnt most rch tl nc M Y C T CA CB CN CG CS Z K) (th) := by
  refine Met.ofW (cc := cX5_thrown) (maxL := 1) (ret := (some .int)) (by decide) rfl ?_
  intro p e s m args below meth c s₁ B hml hv
  obtain ⟨rfl, hP, hK⟩ := hv
  have hx := B.exec
  have hb := B.bytes
  have hr := B.returns
  have hT : ∀ w ∈ TB, w.before _ s = true := fun w h => atoms_spec (ws := Cond.code yX5_thrown cX5_thrown 1 (some .int) :: TB) B.pre w (List.mem_cons_of_mem _ h)
  have hown : s.vm.findClass RX5 = some m.cls := findClass_of_methodNamed B.named
  have hlocks := B.notSynchronized
  have hl := lv_entry ([.ref md]) (n := 1) (Nat.le_of_ble_eq_true rfl)
  rw [lg_entry_eq]
  generalize (lg_sl ([.ref md]) ++ List.replicate (1 - (lg_sl ([.ref md])).length) Slot.unset).toArray = ls at hl ⊢
  have hl : lv_has ls 1 [(0, .ref md)] := hl
  refine lv_aload_n hx hb dX5_thrown_0 rfl (lv_at hl 0 rfl) ?_
  refine gf_X5_62 hx hb hT hown hK hP 0 rfl rfl dX5_thrown_1 ?_
  exact z_iret hx hb hr hlocks (rfl) dX5_thrown_4

set_option maxHeartbeats 4000000 in
set_option maxRecDepth 100000 in
theorem c_X5_isByte (l : Launch) (G : zG) (v : Int) (hv : -2147483648 ≤ v ∧ v ≤ 2147483647) : zRd l yX5_isByte cX5_isByte 1 (some .boolean) { frames := 0, cells := 0, slots := 0, locals := 0 } G [.int (zI (v))] ([]) (bI (decide (0 ≤ v) && decide (v ≤ 255))) := by
  refine Met.ofW (cc := cX5_isByte) (maxL := 1) (ret := (some .boolean)) (by decide) rfl ?_
  intro p e s m args below meth c s₁ B hml hv
  obtain ⟨rfl, hP, hK⟩ := hv
  have hx := B.exec
  have hb := B.bytes
  have hr := B.returns
  have hT : ∀ w ∈ TB, w.before _ s = true := fun w h => atoms_spec (ws := Cond.code yX5_isByte cX5_isByte 1 (some .boolean) :: TB) B.pre w (List.mem_cons_of_mem _ h)
  have hown : s.vm.findClass RX5 = some m.cls := findClass_of_methodNamed B.named
  have hlocks := B.notSynchronized
  have hl := lv_entry ([.int (zI (v))]) (n := 1) (Nat.le_of_ble_eq_true rfl)
  rw [lg_entry_eq]
  generalize (lg_sl ([.int (zI (v))]) ++ List.replicate (1 - (lg_sl ([.int (zI (v))])).length) Slot.unset).toArray = ls at hl ⊢
  have hl : lv_has ls 1 [(0, .int (zI (v)))] := hl
  refine lv_iload_n hx hb dX5_isByte_0 rfl (lv_at hl 0 rfl) ?_
  refine z_if_lt (tgt := 15) hx hb dX5_isByte_1 (by decide) (by omega) (fun h1 => ?_) (fun h1 => ?_)
  · skip
    refine z_iconst hx hb dX5_isByte_15 ?_
    exact z_zret hx hb hr hlocks (by first | exact Or.inl rfl | exact Or.inr rfl) (by refine bI_cases (fun h9 => ?_) (fun h9 => ?_) <;> first | rfl | (exfalso; simp only [Bool.and_eq_true, Bool.and_eq_false_iff, Bool.or_eq_true, Bool.or_eq_false_iff, decide_eq_true_eq, decide_eq_false_iff_not] at h9; omega)) dX5_isByte_16
  · skip
    refine lv_iload_n hx hb dX5_isByte_4 rfl (lv_at hl 0 rfl) ?_
    refine z_sipush hx hb dX5_isByte_5 (by decide +kernel) ?_
    refine z_icmp_gt (tgt := 15) hx hb dX5_isByte_8 (by decide) (by omega) (by omega) (fun h8 => ?_) (fun h8 => ?_)
    · skip
      refine z_iconst hx hb dX5_isByte_15 ?_
      exact z_zret hx hb hr hlocks (by first | exact Or.inl rfl | exact Or.inr rfl) (by refine bI_cases (fun h9 => ?_) (fun h9 => ?_) <;> first | rfl | (exfalso; simp only [Bool.and_eq_true, Bool.and_eq_false_iff, Bool.or_eq_true, Bool.or_eq_false_iff, decide_eq_true_eq, decide_eq_false_iff_not] at h9; omega)) dX5_isByte_16
    · skip
      refine z_iconst hx hb dX5_isByte_11 ?_
      refine z_goto (tgt := 16) hx hb dX5_isByte_12 (by decide) ?_
      exact z_zret hx hb hr hlocks (by first | exact Or.inl rfl | exact Or.inr rfl) (by refine bI_cases (fun h9 => ?_) (fun h9 => ?_) <;> first | rfl | (exfalso; simp only [Bool.and_eq_true, Bool.and_eq_false_iff, Bool.or_eq_true, Bool.or_eq_false_iff, decide_eq_true_eq, decide_eq_false_iff_not] at h9; omega)) dX5_isByte_16

set_option maxHeartbeats 4000000 in
set_option maxRecDepth 100000 in
theorem c_X4_isByte (l : Launch) (G : zG) (v : Int) (hv : -2147483648 ≤ v ∧ v ≤ 2147483647) : zRd l yX4_isByte cX4_isByte 1 (some .boolean) { frames := 0, cells := 0, slots := 0, locals := 0 } G [.int (zI (v))] ([]) (bI (decide (0 ≤ v) && decide (v ≤ 255))) := by
  refine Met.ofW (cc := cX4_isByte) (maxL := 1) (ret := (some .boolean)) (by decide) rfl ?_
  intro p e s m args below meth c s₁ B hml hv
  obtain ⟨rfl, hP, hK⟩ := hv
  have hx := B.exec
  have hb := B.bytes
  have hr := B.returns
  have hT : ∀ w ∈ TB, w.before _ s = true := fun w h => atoms_spec (ws := Cond.code yX4_isByte cX4_isByte 1 (some .boolean) :: TB) B.pre w (List.mem_cons_of_mem _ h)
  have hown : s.vm.findClass RX4 = some m.cls := findClass_of_methodNamed B.named
  have hlocks := B.notSynchronized
  have hl := lv_entry ([.int (zI (v))]) (n := 1) (Nat.le_of_ble_eq_true rfl)
  rw [lg_entry_eq]
  generalize (lg_sl ([.int (zI (v))]) ++ List.replicate (1 - (lg_sl ([.int (zI (v))])).length) Slot.unset).toArray = ls at hl ⊢
  have hl : lv_has ls 1 [(0, .int (zI (v)))] := hl
  refine lv_iload_n hx hb dX4_isByte_0 rfl (lv_at hl 0 rfl) ?_
  refine z_if_lt (tgt := 15) hx hb dX4_isByte_1 (by decide) (by omega) (fun h1 => ?_) (fun h1 => ?_)
  · skip
    refine z_iconst hx hb dX4_isByte_15 ?_
    exact z_zret hx hb hr hlocks (by first | exact Or.inl rfl | exact Or.inr rfl) (by refine bI_cases (fun h9 => ?_) (fun h9 => ?_) <;> first | rfl | (exfalso; simp only [Bool.and_eq_true, Bool.and_eq_false_iff, Bool.or_eq_true, Bool.or_eq_false_iff, decide_eq_true_eq, decide_eq_false_iff_not] at h9; omega)) dX4_isByte_16
  · skip
    refine lv_iload_n hx hb dX4_isByte_4 rfl (lv_at hl 0 rfl) ?_
    refine z_sipush hx hb dX4_isByte_5 (by decide +kernel) ?_
    refine z_icmp_gt (tgt := 15) hx hb dX4_isByte_8 (by decide) (by omega) (by omega) (fun h8 => ?_) (fun h8 => ?_)
    · skip
      refine z_iconst hx hb dX4_isByte_15 ?_
      exact z_zret hx hb hr hlocks (by first | exact Or.inl rfl | exact Or.inr rfl) (by refine bI_cases (fun h9 => ?_) (fun h9 => ?_) <;> first | rfl | (exfalso; simp only [Bool.and_eq_true, Bool.and_eq_false_iff, Bool.or_eq_true, Bool.or_eq_false_iff, decide_eq_true_eq, decide_eq_false_iff_not] at h9; omega)) dX4_isByte_16
    · skip
      refine z_iconst hx hb dX4_isByte_11 ?_
      refine z_goto (tgt := 16) hx hb dX4_isByte_12 (by decide) ?_
      exact z_zret hx hb hr hlocks (by first | exact Or.inl rfl | exact Or.inr rfl) (by refine bI_cases (fun h9 => ?_) (fun h9 => ?_) <;> first | rfl | (exfalso; simp only [Bool.and_eq_true, Bool.and_eq_false_iff, Bool.or_eq_true, Bool.or_eq_false_iff, decide_eq_true_eq, decide_eq_false_iff_not] at h9; omega)) dX4_isByte_16

set_option maxHeartbeats 4000000 in
set_option maxRecDepth 100000 in
theorem c_X5_isNear (l : Launch) (G : zG) (v : Int) (hv : -2147483648 ≤ v ∧ v ≤ 2147483647) : zRd l yX5_isNear cX5_isNear 1 (some .boolean) { frames := 0, cells := 0, slots := 0, locals := 0 } G [.int (zI (v))] ([]) (bI (decide (-1000000 ≤ v) && decide (v ≤ 1000000))) := by
  refine Met.ofW (cc := cX5_isNear) (maxL := 1) (ret := (some .boolean)) (by decide) rfl ?_
  intro p e s m args below meth c s₁ B hml hv
  obtain ⟨rfl, hP, hK⟩ := hv
  have hx := B.exec
  have hb := B.bytes
  have hr := B.returns
  have hT : ∀ w ∈ TB, w.before _ s = true := fun w h => atoms_spec (ws := Cond.code yX5_isNear cX5_isNear 1 (some .boolean) :: TB) B.pre w (List.mem_cons_of_mem _ h)
  have hown : s.vm.findClass RX5 = some m.cls := findClass_of_methodNamed B.named
  have hlocks := B.notSynchronized
  have hl := lv_entry ([.int (zI (v))]) (n := 1) (Nat.le_of_ble_eq_true rfl)
  rw [lg_entry_eq]
  generalize (lg_sl ([.int (zI (v))]) ++ List.replicate (1 - (lg_sl ([.int (zI (v))])).length) Slot.unset).toArray = ls at hl ⊢
  have hl : lv_has ls 1 [(0, .int (zI (v)))] := hl
  refine lv_iload_n hx hb dX5_isNear_0 rfl (lv_at hl 0 rfl) ?_
  refine lv_ldc (v := zI (-1000000)) hx hb hown (hT _ (mT 741 (by decide +kernel) rfl)) dX5_isNear_1 ?_
  refine z_icmp_lt (tgt := 16) hx hb dX5_isNear_3 (by decide) (by omega) (by omega) (fun h3 => ?_) (fun h3 => ?_)
  · skip
    refine z_iconst hx hb dX5_isNear_16 ?_
    exact z_zret hx hb hr hlocks (by first | exact Or.inl rfl | exact Or.inr rfl) (by refine bI_cases (fun h9 => ?_) (fun h9 => ?_) <;> first | rfl | (exfalso; simp only [Bool.and_eq_true, Bool.and_eq_false_iff, Bool.or_eq_true, Bool.or_eq_false_iff, decide_eq_true_eq, decide_eq_false_iff_not] at h9; omega)) dX5_isNear_17
  · skip
    refine lv_iload_n hx hb dX5_isNear_6 rfl (lv_at hl 0 rfl) ?_
    refine lv_ldc (v := zI (1000000)) hx hb hown (hT _ (mT 742 (by decide +kernel) rfl)) dX5_isNear_7 ?_
    refine z_icmp_gt (tgt := 16) hx hb dX5_isNear_9 (by decide) (by omega) (by omega) (fun h9 => ?_) (fun h9 => ?_)
    · skip
      refine z_iconst hx hb dX5_isNear_16 ?_
      exact z_zret hx hb hr hlocks (by first | exact Or.inl rfl | exact Or.inr rfl) (by refine bI_cases (fun h9 => ?_) (fun h9 => ?_) <;> first | rfl | (exfalso; simp only [Bool.and_eq_true, Bool.and_eq_false_iff, Bool.or_eq_true, Bool.or_eq_false_iff, decide_eq_true_eq, decide_eq_false_iff_not] at h9; omega)) dX5_isNear_17
    · skip
      refine z_iconst hx hb dX5_isNear_12 ?_
      refine z_goto (tgt := 17) hx hb dX5_isNear_13 (by decide) ?_
      exact z_zret hx hb hr hlocks (by first | exact Or.inl rfl | exact Or.inr rfl) (by refine bI_cases (fun h9 => ?_) (fun h9 => ?_) <;> first | rfl | (exfalso; simp only [Bool.and_eq_true, Bool.and_eq_false_iff, Bool.or_eq_true, Bool.or_eq_false_iff, decide_eq_true_eq, decide_eq_false_iff_not] at h9; omega)) dX5_isNear_17

set_option maxHeartbeats 4000000 in
set_option maxRecDepth 100000 in
theorem c_X4_isTooFar (l : Launch) (G : zG) (v : Int) (hv : -2147483648 ≤ v ∧ v ≤ 2147483647) : zRd l yX4_isTooFar cX4_isTooFar 1 (some .boolean) { frames := 0, cells := 0, slots := 0, locals := 0 } G [.int (zI (v))] ([]) (bI (decide (v < -1000000) || decide (1000000 < v))) := by
  refine Met.ofW (cc := cX4_isTooFar) (maxL := 1) (ret := (some .boolean)) (by decide) rfl ?_
  intro p e s m args below meth c s₁ B hml hv
  obtain ⟨rfl, hP, hK⟩ := hv
  have hx := B.exec
  have hb := B.bytes
  have hr := B.returns
  have hT : ∀ w ∈ TB, w.before _ s = true := fun w h => atoms_spec (ws := Cond.code yX4_isTooFar cX4_isTooFar 1 (some .boolean) :: TB) B.pre w (List.mem_cons_of_mem _ h)
  have hown : s.vm.findClass RX4 = some m.cls := findClass_of_methodNamed B.named
  have hlocks := B.notSynchronized
  have hl := lv_entry ([.int (zI (v))]) (n := 1) (Nat.le_of_ble_eq_true rfl)
  rw [lg_entry_eq]
  generalize (lg_sl ([.int (zI (v))]) ++ List.replicate (1 - (lg_sl ([.int (zI (v))])).length) Slot.unset).toArray = ls at hl ⊢
  have hl : lv_has ls 1 [(0, .int (zI (v)))] := hl
  refine lv_iload_n hx hb dX4_isTooFar_0 rfl (lv_at hl 0 rfl) ?_
  refine lv_ldc (v := zI (-1000000)) hx hb hown (hT _ (mT 501 (by decide +kernel) rfl)) dX4_isTooFar_1 ?_
  refine z_icmp_lt (tgt := 12) hx hb dX4_isTooFar_3 (by decide) (by omega) (by omega) (fun h3 => ?_) (fun h3 => ?_)
  · skip
    refine z_iconst hx hb dX4_isTooFar_12 ?_
    refine z_goto (tgt := 17) hx hb dX4_isTooFar_13 (by decide) ?_
    exact z_zret hx hb hr hlocks (by first | exact Or.inl rfl | exact Or.inr rfl) (by refine bI_cases (fun h9 => ?_) (fun h9 => ?_) <;> first | rfl | (exfalso; simp only [Bool.and_eq_true, Bool.and_eq_false_iff, Bool.or_eq_true, Bool.or_eq_false_iff, decide_eq_true_eq, decide_eq_false_iff_not] at h9; omega)) dX4_isTooFar_17
  · skip
    refine lv_iload_n hx hb dX4_isTooFar_6 rfl (lv_at hl 0 rfl) ?_
    refine lv_ldc (v := zI (1000000)) hx hb hown (hT _ (mT 502 (by decide +kernel) rfl)) dX4_isTooFar_7 ?_
    refine z_icmp_le (tgt := 16) hx hb dX4_isTooFar_9 (by decide) (by omega) (by omega) (fun h9 => ?_) (fun h9 => ?_)
    · skip
      refine z_iconst hx hb dX4_isTooFar_16 ?_
      exact z_zret hx hb hr hlocks (by first | exact Or.inl rfl | exact Or.inr rfl) (by refine bI_cases (fun h9 => ?_) (fun h9 => ?_) <;> first | rfl | (exfalso; simp only [Bool.and_eq_true, Bool.and_eq_false_iff, Bool.or_eq_true, Bool.or_eq_false_iff, decide_eq_true_eq, decide_eq_false_iff_not] at h9; omega)) dX4_isTooFar_17
    · skip
      refine z_iconst hx hb dX4_isTooFar_12 ?_
      refine z_goto (tgt := 17) hx hb dX4_isTooFar_13 (by decide) ?_
      exact z_zret hx hb hr hlocks (by first | exact Or.inl rfl | exact Or.inr rfl) (by refine bI_cases (fun h9 => ?_) (fun h9 => ?_) <;> first | rfl | (exfalso; simp only [Bool.and_eq_true, Bool.and_eq_false_iff, Bool.or_eq_true, Bool.or_eq_false_iff, decide_eq_true_eq, decide_eq_false_iff_not] at h9; omega)) dX4_isTooFar_17

set_option maxHeartbeats 4000000 in
set_option maxRecDepth 100000 in
theorem c_X5_isInk (l : Launch) (G : zG) (md ma mb mc mt m1 m2 m3 m4 m5 m6 m7 : Nat) (th w h cnt most rch tl nc : Int) (M Y C T CA CB CN CG CS Z K : Int → Int) (v : Int) (hm : mdOK w h cnt most rch tl nc M Y C T CN CG CS K) (hv : -2147483648 ≤ v ∧ v ≤ 2147483647) : zRd l yX5_isInk cX5_isInk 2 (some .boolean) { frames := 0, cells := 0, slots := 0, locals := 0 } G [.ref md, .int (zI (v))] (mdL G md ma mb mc mt m1 m2 m3 m4 m5 m6 m7 th w h cnt most rch tl nc M Y C T CA CB CN CG CS Z K) (bI (decide (0 ≤ v) && decide (v < cnt))) := by
  refine Met.ofW (cc := cX5_isInk) (maxL := 2) (ret := (some .boolean)) (by decide) rfl ?_
  intro p e s m args below meth c s₁ B hml hv
  obtain ⟨rfl, hP, hK⟩ := hv
  have hx := B.exec
  have hb := B.bytes
  have hr := B.returns
  have hT : ∀ w ∈ TB, w.before _ s = true := fun w h => atoms_spec (ws := Cond.code yX5_isInk cX5_isInk 2 (some .boolean) :: TB) B.pre w (List.mem_cons_of_mem _ h)
  have hown : s.vm.findClass RX5 = some m.cls := findClass_of_methodNamed B.named
  have hlocks := B.notSynchronized
  have hl := lv_entry ([.ref md, .int (zI (v))]) (n := 2) (Nat.le_of_ble_eq_true rfl)
  rw [lg_entry_eq]
  generalize (lg_sl ([.ref md, .int (zI (v))]) ++ List.replicate (2 - (lg_sl ([.ref md, .int (zI (v))])).length) Slot.unset).toArray = ls at hl ⊢
  have hl : lv_has ls 2 [(0, .ref md), (1, .int (zI (v)))] := hl
  obtain ⟨hw, hh, hcnt, hmost, hrch, hM, hY, hC, hTb, hT0, hT5, htl, hnc, hcl, hKb⟩ := id hm
  have hpt := md_pts hm
  have hPb : ∀ j, 0 ≤ PPf Y w (w * h) j ∧ PPf Y w (w * h) j ≤ 255 := fun j => hY _
  refine lv_iload_n hx hb dX5_isInk_0 rfl (lv_at hl 1 rfl) ?_
  refine z_if_lt (tgt := 16) hx hb dX5_isInk_1 (by decide) (by omega) (fun h1 => ?_) (fun h1 => ?_)
  · skip
    refine z_iconst hx hb dX5_isInk_16 ?_
    exact z_zret hx hb hr hlocks (by first | exact Or.inl rfl | exact Or.inr rfl) (by refine bI_cases (fun h9 => ?_) (fun h9 => ?_) <;> first | rfl | (exfalso; simp only [Bool.and_eq_true, Bool.and_eq_false_iff, Bool.or_eq_true, Bool.or_eq_false_iff, decide_eq_true_eq, decide_eq_false_iff_not] at h9; omega)) dX5_isInk_17
  · skip
    refine lv_iload_n hx hb dX5_isInk_4 rfl (lv_at hl 1 rfl) ?_
    refine lv_aload_n hx hb dX5_isInk_5 rfl (lv_at hl 0 rfl) ?_
    refine gf_X5_7 hx hb hT hown hK hP 0 rfl rfl dX5_isInk_6 ?_
    refine z_icmp_ge (tgt := 16) hx hb dX5_isInk_9 (by decide) (by omega) (by omega) (fun h9 => ?_) (fun h9 => ?_)
    · skip
      refine z_iconst hx hb dX5_isInk_16 ?_
      exact z_zret hx hb hr hlocks (by first | exact Or.inl rfl | exact Or.inr rfl) (by refine bI_cases (fun h9 => ?_) (fun h9 => ?_) <;> first | rfl | (exfalso; simp only [Bool.and_eq_true, Bool.and_eq_false_iff, Bool.or_eq_true, Bool.or_eq_false_iff, decide_eq_true_eq, decide_eq_false_iff_not] at h9; omega)) dX5_isInk_17
    · skip
      refine z_iconst hx hb dX5_isInk_12 ?_
      refine z_goto (tgt := 17) hx hb dX5_isInk_13 (by decide) ?_
      exact z_zret hx hb hr hlocks (by first | exact Or.inl rfl | exact Or.inr rfl) (by refine bI_cases (fun h9 => ?_) (fun h9 => ?_) <;> first | rfl | (exfalso; simp only [Bool.and_eq_true, Bool.and_eq_false_iff, Bool.or_eq_true, Bool.or_eq_false_iff, decide_eq_true_eq, decide_eq_false_iff_not] at h9; omega)) dX5_isInk_17

set_option maxHeartbeats 4000000 in
set_option maxRecDepth 100000 in
theorem c_X5_isCell (l : Launch) (G : zG) (md ma mb mc mt m1 m2 m3 m4 m5 m6 m7 : Nat) (th w h cnt most rch tl nc : Int) (M Y C T CA CB CN CG CS Z K : Int → Int) (v : Int) (hm : mdOK w h cnt most rch tl nc M Y C T CN CG CS K) (hv : -2147483648 ≤ v ∧ v ≤ 2147483647) : zRd l yX5_isCell cX5_isCell 2 (some .boolean) { frames := 0, cells := 0, slots := 0, locals := 0 } G [.ref md, .int (zI (v))] (mdL G md ma mb mc mt m1 m2 m3 m4 m5 m6 m7 th w h cnt most rch tl nc M Y C T CA CB CN CG CS Z K) (bI (decide (0 ≤ v) && decide (v < nc))) := by
  refine Met.ofW (cc := cX5_isCell) (maxL := 2) (ret := (some .boolean)) (by decide) rfl ?_
  intro p e s m args below meth c s₁ B hml hv
  obtain ⟨rfl, hP, hK⟩ := hv
  have hx := B.exec
  have hb := B.bytes
  have hr := B.returns
  have hT : ∀ w ∈ TB, w.before _ s = true := fun w h => atoms_spec (ws := Cond.code yX5_isCell cX5_isCell 2 (some .boolean) :: TB) B.pre w (List.mem_cons_of_mem _ h)
  have hown : s.vm.findClass RX5 = some m.cls := findClass_of_methodNamed B.named
  have hlocks := B.notSynchronized
  have hl := lv_entry ([.ref md, .int (zI (v))]) (n := 2) (Nat.le_of_ble_eq_true rfl)
  rw [lg_entry_eq]
  generalize (lg_sl ([.ref md, .int (zI (v))]) ++ List.replicate (2 - (lg_sl ([.ref md, .int (zI (v))])).length) Slot.unset).toArray = ls at hl ⊢
  have hl : lv_has ls 2 [(0, .ref md), (1, .int (zI (v)))] := hl
  obtain ⟨hw, hh, hcnt, hmost, hrch, hM, hY, hC, hTb, hT0, hT5, htl, hnc, hcl, hKb⟩ := id hm
  have hpt := md_pts hm
  have hPb : ∀ j, 0 ≤ PPf Y w (w * h) j ∧ PPf Y w (w * h) j ≤ 255 := fun j => hY _
  refine lv_iload_n hx hb dX5_isCell_0 rfl (lv_at hl 1 rfl) ?_
  refine z_if_lt (tgt := 16) hx hb dX5_isCell_1 (by decide) (by omega) (fun h1 => ?_) (fun h1 => ?_)
  · skip
    refine z_iconst hx hb dX5_isCell_16 ?_
    exact z_zret hx hb hr hlocks (by first | exact Or.inl rfl | exact Or.inr rfl) (by refine bI_cases (fun h9 => ?_) (fun h9 => ?_) <;> first | rfl | (exfalso; simp only [Bool.and_eq_true, Bool.and_eq_false_iff, Bool.or_eq_true, Bool.or_eq_false_iff, decide_eq_true_eq, decide_eq_false_iff_not] at h9; omega)) dX5_isCell_17
  · skip
    refine lv_iload_n hx hb dX5_isCell_4 rfl (lv_at hl 1 rfl) ?_
    refine lv_aload_n hx hb dX5_isCell_5 rfl (lv_at hl 0 rfl) ?_
    refine gf_X5_119 hx hb hT hown hK hP 0 rfl rfl dX5_isCell_6 ?_
    refine z_icmp_ge (tgt := 16) hx hb dX5_isCell_9 (by decide) (by omega) (by omega) (fun h9 => ?_) (fun h9 => ?_)
    · skip
      refine z_iconst hx hb dX5_isCell_16 ?_
      exact z_zret hx hb hr hlocks (by first | exact Or.inl rfl | exact Or.inr rfl) (by refine bI_cases (fun h9 => ?_) (fun h9 => ?_) <;> first | rfl | (exfalso; simp only [Bool.and_eq_true, Bool.and_eq_false_iff, Bool.or_eq_true, Bool.or_eq_false_iff, decide_eq_true_eq, decide_eq_false_iff_not] at h9; omega)) dX5_isCell_17
    · skip
      refine z_iconst hx hb dX5_isCell_12 ?_
      refine z_goto (tgt := 17) hx hb dX5_isCell_13 (by decide) ?_
      exact z_zret hx hb hr hlocks (by first | exact Or.inl rfl | exact Or.inr rfl) (by refine bI_cases (fun h9 => ?_) (fun h9 => ?_) <;> first | rfl | (exfalso; simp only [Bool.and_eq_true, Bool.and_eq_false_iff, Bool.or_eq_true, Bool.or_eq_false_iff, decide_eq_true_eq, decide_eq_false_iff_not] at h9; omega)) dX5_isCell_17

set_option maxHeartbeats 4000000 in
set_option maxRecDepth 100000 in
theorem c_X5_isPoint (l : Launch) (G : zG) (md ma mb mc mt m1 m2 m3 m4 m5 m6 m7 : Nat) (th w h cnt most rch tl nc : Int) (M Y C T CA CB CN CG CS Z K : Int → Int) (x y : Int) (hm : mdOK w h cnt most rch tl nc M Y C T CN CG CS K) (hx : -2147483648 ≤ x ∧ x ≤ 2147483647) (hy : -2147483648 ≤ y ∧ y ≤ 2147483647) : zRd l yX5_isPoint cX5_isPoint 3 (some .boolean) { frames := 0, cells := 0, slots := 0, locals := 0 } G [.ref md, .int (zI (x)), .int (zI (y))] (mdL G md ma mb mc mt m1 m2 m3 m4 m5 m6 m7 th w h cnt most rch tl nc M Y C T CA CB CN CG CS Z K) (bI (decide (0 ≤ x) && decide (x < w) && decide (0 ≤ y) && decide (y < h))) := by
  refine Met.ofW (cc := cX5_isPoint) (maxL := 3) (ret := (some .boolean)) (by decide) rfl ?_
  intro p e s m args below meth c s₁ B hml hv
  obtain ⟨rfl, hP, hK⟩ := hv
  have hx := B.exec
  have hb := B.bytes
  have hr := B.returns
  have hT : ∀ w ∈ TB, w.before _ s = true := fun w h => atoms_spec (ws := Cond.code yX5_isPoint cX5_isPoint 3 (some .boolean) :: TB) B.pre w (List.mem_cons_of_mem _ h)
  have hown : s.vm.findClass RX5 = some m.cls := findClass_of_methodNamed B.named
  have hlocks := B.notSynchronized
  have hl := lv_entry ([.ref md, .int (zI (x)), .int (zI (y))]) (n := 3) (Nat.le_of_ble_eq_true rfl)
  rw [lg_entry_eq]
  generalize (lg_sl ([.ref md, .int (zI (x)), .int (zI (y))]) ++ List.replicate (3 - (lg_sl ([.ref md, .int (zI (x)), .int (zI (y))])).length) Slot.unset).toArray = ls at hl ⊢
  have hl : lv_has ls 3 [(0, .ref md), (1, .int (zI (x))), (2, .int (zI (y)))] := hl
  obtain ⟨hw, hh, hcnt, hmost, hrch, hM, hY, hC, hTb, hT0, hT5, htl, hnc, hcl, hKb⟩ := id hm
  have hpt := md_pts hm
  have hPb : ∀ j, 0 ≤ PPf Y w (w * h) j ∧ PPf Y w (w * h) j ≤ 255 := fun j => hY _
  refine lv_iload_n hx hb dX5_isPoint_0 rfl (lv_at hl 1 rfl) ?_
  refine z_if_lt (tgt := 28) hx hb dX5_isPoint_1 (by decide) (by omega) (fun h1 => ?_) (fun h1 => ?_)
  · skip
    refine z_iconst hx hb dX5_isPoint_28 ?_
    exact z_zret hx hb hr hlocks (by first | exact Or.inl rfl | exact Or.inr rfl) (by refine bI_cases (fun h9 => ?_) (fun h9 => ?_) <;> first | rfl | (exfalso; simp only [Bool.and_eq_true, Bool.and_eq_false_iff, Bool.or_eq_true, Bool.or_eq_false_iff, decide_eq_true_eq, decide_eq_false_iff_not] at h9; omega)) dX5_isPoint_29
  · skip
    refine lv_iload_n hx hb dX5_isPoint_4 rfl (lv_at hl 1 rfl) ?_
    refine lv_aload_n hx hb dX5_isPoint_5 rfl (lv_at hl 0 rfl) ?_
    refine gf_X5_56 hx hb hT hown hK hP 0 rfl rfl dX5_isPoint_6 ?_
    refine z_icmp_ge (tgt := 28) hx hb dX5_isPoint_9 (by decide) (by omega) (by omega) (fun h9 => ?_) (fun h9 => ?_)
    · skip
      refine z_iconst hx hb dX5_isPoint_28 ?_
      exact z_zret hx hb hr hlocks (by first | exact Or.inl rfl | exact Or.inr rfl) (by refine bI_cases (fun h9 => ?_) (fun h9 => ?_) <;> first | rfl | (exfalso; simp only [Bool.and_eq_true, Bool.and_eq_false_iff, Bool.or_eq_true, Bool.or_eq_false_iff, decide_eq_true_eq, decide_eq_false_iff_not] at h9; omega)) dX5_isPoint_29
    · skip
      refine lv_iload_n hx hb dX5_isPoint_12 rfl (lv_at hl 2 rfl) ?_
      refine z_if_lt (tgt := 28) hx hb dX5_isPoint_13 (by decide) (by omega) (fun h13 => ?_) (fun h13 => ?_)
      · skip
        refine z_iconst hx hb dX5_isPoint_28 ?_
        exact z_zret hx hb hr hlocks (by first | exact Or.inl rfl | exact Or.inr rfl) (by refine bI_cases (fun h9 => ?_) (fun h9 => ?_) <;> first | rfl | (exfalso; simp only [Bool.and_eq_true, Bool.and_eq_false_iff, Bool.or_eq_true, Bool.or_eq_false_iff, decide_eq_true_eq, decide_eq_false_iff_not] at h9; omega)) dX5_isPoint_29
      · skip
        refine lv_iload_n hx hb dX5_isPoint_16 rfl (lv_at hl 2 rfl) ?_
        refine lv_aload_n hx hb dX5_isPoint_17 rfl (lv_at hl 0 rfl) ?_
        refine gf_X5_59 hx hb hT hown hK hP 0 rfl rfl dX5_isPoint_18 ?_
        refine z_icmp_ge (tgt := 28) hx hb dX5_isPoint_21 (by decide) (by omega) (by omega) (fun h21 => ?_) (fun h21 => ?_)
        · skip
          refine z_iconst hx hb dX5_isPoint_28 ?_
          exact z_zret hx hb hr hlocks (by first | exact Or.inl rfl | exact Or.inr rfl) (by refine bI_cases (fun h9 => ?_) (fun h9 => ?_) <;> first | rfl | (exfalso; simp only [Bool.and_eq_true, Bool.and_eq_false_iff, Bool.or_eq_true, Bool.or_eq_false_iff, decide_eq_true_eq, decide_eq_false_iff_not] at h9; omega)) dX5_isPoint_29
        · skip
          refine z_iconst hx hb dX5_isPoint_24 ?_
          refine z_goto (tgt := 29) hx hb dX5_isPoint_25 (by decide) ?_
          exact z_zret hx hb hr hlocks (by first | exact Or.inl rfl | exact Or.inr rfl) (by refine bI_cases (fun h9 => ?_) (fun h9 => ?_) <;> first | rfl | (exfalso; simp only [Bool.and_eq_true, Bool.and_eq_false_iff, Bool.or_eq_true, Bool.or_eq_false_iff, decide_eq_true_eq, decide_eq_false_iff_not] at h9; omega)) dX5_isPoint_29

set_option maxHeartbeats 4000000 in
set_option maxRecDepth 100000 in
theorem c_X5_byteAt (l : Launch) (G : zG) (md ma mb mc mt m1 m2 m3 m4 m5 m6 m7 : Nat) (th w h cnt most rch tl nc : Int) (M Y C T CA CB CN CG CS Z K : Int → Int) (x y k : Int) (hm : mdOK w h cnt most rch tl nc M Y C T CN CG CS K) (hxx : 0 ≤ x ∧ x < w) (hyy : 0 ≤ y ∧ y < h) (hk : 0 ≤ k ∧ k < 8) : zRd l yX5_byteAt cX5_byteAt 4 (some .int) { frames := 0, cells := 0, slots := 0, locals := 0 } G [.ref md, .int (zI (x)), .int (zI (y)), .int (zI (k))] (mdL G md ma mb mc mt m1 m2 m3 m4 m5 m6 m7 th w h cnt most rch tl nc M Y C T CA CB CN CG CS Z K) ((PPf Y w (w * h)) (k * (w * h) + (x + w * y))) := by
  refine Met.ofW (cc := cX5_byteAt) (maxL := 4) (ret := (some .int)) (by decide) rfl ?_
  intro p e s m args below meth c s₁ B hml hv
  obtain ⟨rfl, hP, hK⟩ := hv
  have hx := B.exec
  have hb := B.bytes
  have hr := B.returns
  have hT : ∀ w ∈ TB, w.before _ s = true := fun w h => atoms_spec (ws := Cond.code yX5_byteAt cX5_byteAt 4 (some .int) :: TB) B.pre w (List.mem_cons_of_mem _ h)
  have hown : s.vm.findClass RX5 = some m.cls := findClass_of_methodNamed B.named
  have hlocks := B.notSynchronized
  have hl := lv_entry ([.ref md, .int (zI (x)), .int (zI (y)), .int (zI (k))]) (n := 4) (Nat.le_of_ble_eq_true rfl)
  rw [lg_entry_eq]
  generalize (lg_sl ([.ref md, .int (zI (x)), .int (zI (y)), .int (zI (k))]) ++ List.replicate (4 - (lg_sl ([.ref md, .int (zI (x)), .int (zI (y)), .int (zI (k))])).length) Slot.unset).toArray = ls at hl ⊢
  have hl : lv_has ls 4 [(0, .ref md), (1, .int (zI (x))), (2, .int (zI (y))), (3, .int (zI (k)))] := hl
  obtain ⟨hw, hh, hcnt, hmost, hrch, hM, hY, hC, hTb, hT0, hT5, htl, hnc, hcl, hKb⟩ := id hm
  have hpt := md_pts hm
  have hPb : ∀ j, 0 ≤ PPf Y w (w * h) j ∧ PPf Y w (w * h) j ≤ 255 := fun j => hY _
  refine lv_aload_n hx hb dX5_byteAt_0 rfl (lv_at hl 0 rfl) ?_
  refine gf_X5_17 hx hb hT hown hK hP 0 rfl rfl dX5_byteAt_1 ?_
  refine z_bipush hx hb dX5_byteAt_4 (by decide +kernel) ?_
  refine z_bipush hx hb dX5_byteAt_6 (by decide +kernel) ?_
  refine lv_iload_n hx hb dX5_byteAt_8 rfl (lv_at hl 2 rfl) ?_
  refine z_imul hx hb dX5_byteAt_9 ?_
  refine lv_iload_n hx hb dX5_byteAt_10 rfl (lv_at hl 1 rfl) ?_
  refine z_iadd hx hb dX5_byteAt_11 ?_
  refine z_imul hx hb dX5_byteAt_12 ?_
  refine lv_iload_n hx hb dX5_byteAt_13 rfl (lv_at hl 3 rfl) ?_
  refine z_iadd hx hb dX5_byteAt_14 ?_
  refine z_iald hx hb hK hP 2 rfl (⟨by omega, by omega, by omega⟩) dX5_byteAt_15 ?_
  exact z_iret hx hb hr hlocks ((PP_at Y hxx (pt_b hxx hyy)).symm) dX5_byteAt_16

set_option maxHeartbeats 4000000 in
set_option maxRecDepth 100000 in
theorem c_X5_less (l : Launch) (G : zG) (a b : Int) (ha : -2147483648 ≤ a ∧ a ≤ 2147483647) (hb : -2147483648 ≤ b ∧ b ≤ 2147483647) : zRd l yX5_less cX5_less 2 (some .int) { frames := 0, cells := 0, slots := 0, locals := 0 } G [.int (zI (a)), .int (zI (b))] ([]) (min a b) := by
  refine Met.ofW (cc := cX5_less) (maxL := 2) (ret := (some .int)) (by decide) rfl ?_
  intro p e s m args below meth c s₁ B hml hv
  obtain ⟨rfl, hP, hK⟩ := hv
  have hx := B.exec
  have hb := B.bytes
  have hr := B.returns
  have hT : ∀ w ∈ TB, w.before _ s = true := fun w h => atoms_spec (ws := Cond.code yX5_less cX5_less 2 (some .int) :: TB) B.pre w (List.mem_cons_of_mem _ h)
  have hown : s.vm.findClass RX5 = some m.cls := findClass_of_methodNamed B.named
  have hlocks := B.notSynchronized
  have hl := lv_entry ([.int (zI (a)), .int (zI (b))]) (n := 2) (Nat.le_of_ble_eq_true rfl)
  rw [lg_entry_eq]
  generalize (lg_sl ([.int (zI (a)), .int (zI (b))]) ++ List.replicate (2 - (lg_sl ([.int (zI (a)), .int (zI (b))])).length) Slot.unset).toArray = ls at hl ⊢
  have hl : lv_has ls 2 [(0, .int (zI (a))), (1, .int (zI (b)))] := hl
  refine lv_iload_n hx hb dX5_less_0 rfl (lv_at hl 0 rfl) ?_
  refine lv_iload_n hx hb dX5_less_1 rfl (lv_at hl 1 rfl) ?_
  refine z_icmp_ge (tgt := 9) hx hb dX5_less_2 (by decide) (by omega) (by omega) (fun h2 => ?_) (fun h2 => ?_)
  · skip
    refine lv_iload_n hx hb dX5_less_9 rfl (lv_at hl 1 rfl) ?_
    exact z_iret hx hb hr hlocks (by omega) dX5_less_10
  · skip
    refine lv_iload_n hx hb dX5_less_5 rfl (lv_at hl 0 rfl) ?_
    refine z_goto (tgt := 10) hx hb dX5_less_6 (by decide) ?_
    exact z_iret hx hb hr hlocks (by omega) dX5_less_10

set_option maxHeartbeats 4000000 in
set_option maxRecDepth 100000 in
theorem c_X5_more (l : Launch) (G : zG) (a b : Int) (ha : -2147483648 ≤ a ∧ a ≤ 2147483647) (hb : -2147483648 ≤ b ∧ b ≤ 2147483647) : zRd l yX5_more cX5_more 2 (some .int) { frames := 0, cells := 0, slots := 0, locals := 0 } G [.int (zI (a)), .int (zI (b))] ([]) (max a b) := by
  refine Met.ofW (cc := cX5_more) (maxL := 2) (ret := (some .int)) (by decide) rfl ?_
  intro p e s m args below meth c s₁ B hml hv
  obtain ⟨rfl, hP, hK⟩ := hv
  have hx := B.exec
  have hb := B.bytes
  have hr := B.returns
  have hT : ∀ w ∈ TB, w.before _ s = true := fun w h => atoms_spec (ws := Cond.code yX5_more cX5_more 2 (some .int) :: TB) B.pre w (List.mem_cons_of_mem _ h)
  have hown : s.vm.findClass RX5 = some m.cls := findClass_of_methodNamed B.named
  have hlocks := B.notSynchronized
  have hl := lv_entry ([.int (zI (a)), .int (zI (b))]) (n := 2) (Nat.le_of_ble_eq_true rfl)
  rw [lg_entry_eq]
  generalize (lg_sl ([.int (zI (a)), .int (zI (b))]) ++ List.replicate (2 - (lg_sl ([.int (zI (a)), .int (zI (b))])).length) Slot.unset).toArray = ls at hl ⊢
  have hl : lv_has ls 2 [(0, .int (zI (a))), (1, .int (zI (b)))] := hl
  refine lv_iload_n hx hb dX5_more_0 rfl (lv_at hl 0 rfl) ?_
  refine lv_iload_n hx hb dX5_more_1 rfl (lv_at hl 1 rfl) ?_
  refine z_icmp_le (tgt := 9) hx hb dX5_more_2 (by decide) (by omega) (by omega) (fun h2 => ?_) (fun h2 => ?_)
  · skip
    refine lv_iload_n hx hb dX5_more_9 rfl (lv_at hl 1 rfl) ?_
    exact z_iret hx hb hr hlocks (by omega) dX5_more_10
  · skip
    refine lv_iload_n hx hb dX5_more_5 rfl (lv_at hl 0 rfl) ?_
    refine z_goto (tgt := 10) hx hb dX5_more_6 (by decide) ?_
    exact z_iret hx hb hr hlocks (by omega) dX5_more_10

set_option maxHeartbeats 4000000 in
set_option maxRecDepth 100000 in
theorem c_X5_sumAt (l : Launch) (G : zG) (md ma mb mc mt m1 m2 m3 m4 m5 m6 m7 : Nat) (th w h cnt most rch tl nc : Int) (M Y C T CA CB CN CG CS Z K : Int → Int) (q : Int) (hm : mdOK w h cnt most rch tl nc M Y C T CN CG CS K) (hq : 0 ≤ q ∧ q < 192) : zRd l yX5_sumAt cX5_sumAt 4 (some .int) { frames := 0, cells := 0, slots := 0, locals := 0 } G [.ref md, .int (zI (q))] (mdL G md ma mb mc mt m1 m2 m3 m4 m5 m6 m7 th w h cnt most rch tl nc M Y C T CA CB CN CG CS Z K) (zsum (fun j => Y (8 * q + j)) 8) := by
  refine Met.ofW (cc := cX5_sumAt) (maxL := 4) (ret := (some .int)) (by decide) rfl ?_
  intro p e s m args below meth c s₁ B hml hv
  obtain ⟨rfl, hP, hK⟩ := hv
  have hx := B.exec
  have hb := B.bytes
  have hr := B.returns
  have hT : ∀ w ∈ TB, w.before _ s = true := fun w h => atoms_spec (ws := Cond.code yX5_sumAt cX5_sumAt 4 (some .int) :: TB) B.pre w (List.mem_cons_of_mem _ h)
  have hown : s.vm.findClass RX5 = some m.cls := findClass_of_methodNamed B.named
  have hlocks := B.notSynchronized
  have hl := lv_entry ([.ref md, .int (zI (q))]) (n := 4) (Nat.le_of_ble_eq_true rfl)
  rw [lg_entry_eq]
  generalize (lg_sl ([.ref md, .int (zI (q))]) ++ List.replicate (4 - (lg_sl ([.ref md, .int (zI (q))])).length) Slot.unset).toArray = ls at hl ⊢
  have hl : lv_has ls 4 [(0, .ref md), (1, .int (zI (q)))] := hl
  obtain ⟨hw, hh, hcnt, hmost, hrch, hM, hY, hC, hTb, hT0, hT5, htl, hnc, hcl, hKb⟩ := id hm
  have hpt := md_pts hm
  have hPb : ∀ j, 0 ≤ PPf Y w (w * h) j ∧ PPf Y w (w * h) j ≤ 255 := fun j => hY _
  refine z_iconst hx hb dX5_sumAt_0 ?_
  refine lv_istore_n (lv' := [(2, .int (zI (0))), (0, .ref md), (1, .int (zI (q)))]) hx hb dX5_sumAt_1 rfl hl (by decide) rfl (fun ls hl => ?_)
  refine z_iconst hx hb dX5_sumAt_2 ?_
  refine lv_istore_n (lv' := [(3, .int (zI (0))), (2, .int (zI (0))), (0, .ref md), (1, .int (zI (q)))]) hx hb dX5_sumAt_3 rfl hl (by decide) rfl (fun ls hl => ?_)
  refine z_loop (σ := Int × Array Slot) (fun zq => F0 m 4 (zq.2) []) (fun zq => (0 ≤ zq.1 ∧ zq.1 ≤ 8) ∧ lv_has (zq.2) 4 [(0, .ref md), (1, .int (zI (q))), (2, .int (zI (zsum (fun j => Y (8 * q + j)) zq.1.toNat))), (3, .int (zI (zq.1)))]) (fun zq => (8 - zq.1).toNat) ?_ (0, ls) ⟨by refine ⟨?_, ?_⟩ <;> omega, lv_sub hl [2, 3, 1, 0] rfl⟩
  intro zq hq ih
  obtain ⟨k, ls⟩ := zq
  obtain ⟨hI, hl⟩ := hq
  try dsimp only at hI hl ih ⊢
  have ih4 := ih
  refine lv_iload_n hx hb dX5_sumAt_4 rfl (lv_at hl 3 rfl) ?_
  refine z_bipush hx hb dX5_sumAt_5 (by decide +kernel) ?_
  refine z_icmp_ge (tgt := 30) hx hb dX5_sumAt_7 (by decide) (by omega) (by omega) (fun h7 => ?_) (fun h7 => ?_)
  · skip
    refine lv_iload_n hx hb dX5_sumAt_30 rfl (lv_at hl 2 rfl) ?_
    exact z_iret hx hb hr hlocks (by have hkc : k = 8 := (by omega); rw [hkc]; rfl) dX5_sumAt_31
  · skip
    refine lv_iload_n hx hb dX5_sumAt_10 rfl (lv_at hl 2 rfl) ?_
    refine lv_aload_n hx hb dX5_sumAt_11 rfl (lv_at hl 0 rfl) ?_
    refine gf_X5_17 hx hb hT hown hK hP 0 rfl rfl dX5_sumAt_12 ?_
    refine z_bipush hx hb dX5_sumAt_15 (by decide +kernel) ?_
    refine lv_iload_n hx hb dX5_sumAt_17 rfl (lv_at hl 1 rfl) ?_
    refine z_imul hx hb dX5_sumAt_18 ?_
    refine lv_iload_n hx hb dX5_sumAt_19 rfl (lv_at hl 3 rfl) ?_
    refine z_iadd hx hb dX5_sumAt_20 ?_
    refine z_iald hx hb hK hP 2 rfl (⟨by omega, by omega, by omega⟩) dX5_sumAt_21 ?_
    refine z_iadd hx hb dX5_sumAt_22 ?_
    refine z_top (zsum (fun j => Y (8 * q + j)) (k + 1).toNat) ((zsum_s _ (by omega)).symm) ?_
    refine lv_istore_n (lv' := [(2, .int (zI (zsum (fun j => Y (8 * q + j)) (k + 1).toNat))), (0, .ref md), (1, .int (zI (q))), (3, .int (zI (k)))]) hx hb dX5_sumAt_23 rfl hl (by decide) rfl (fun ls hl => ?_)
    refine lv_iinc (v := zI (k + (1))) (lv' := [(3, .int (zI (k + (1)))), (2, .int (zI (zsum (fun j => Y (8 * q + j)) (k + 1).toNat))), (0, .ref md), (1, .int (zI (q)))]) hx hb dX5_sumAt_24 hl (k := 3) rfl (zI_add _ _) (by decide) rfl (fun ls hl => ?_)
    refine z_goto (tgt := 4) hx hb dX5_sumAt_27 (by decide) ?_
    exact ih4 (k + 1, ls) ⟨by refine ⟨?_, ?_⟩ <;> omega, lv_sub hl [2, 3, 1, 0] rfl⟩ (by omega)

set_option maxHeartbeats 4000000 in
set_option maxRecDepth 100000 in
theorem c_X5_inkOf (l : Launch) (G : zG) (md ma mb mc mt m1 m2 m3 m4 m5 m6 m7 : Nat) (th w h cnt most rch tl nc : Int) (M Y C T CA CB CN CG CS Z K : Int → Int) (x y k ln : Int) (hm : mdOK w h cnt most rch tl nc M Y C T CN CG CS K) (hxx : 0 ≤ x ∧ x < w) (hyy : 0 ≤ y ∧ y < h) (hk : 0 ≤ k ∧ k < 8) (hln : -1 ≤ ln ∧ ln < w * h) : zRd l yX5_inkOf cX5_inkOf 6 (some .int) { frames := 1, cells := 0, slots := 0, locals := 23 } G [.ref md, .int (zI (x)), .int (zI (y)), .int (zI (k)), .int (zI (ln))] (mdL G md ma mb mc mt m1 m2 m3 m4 m5 m6 m7 th w h cnt most rch tl nc M Y C T CA CB CN CG CS Z K) ((pW (PPf Y w (w * h)) (w * h) k (x + w * y) ln)) := by
  refine Met.ofW (cc := cX5_inkOf) (maxL := 6) (ret := (some .int)) (by decide) rfl ?_
  intro p e s m args below meth c s₁ B hml hv
  obtain ⟨rfl, hP, hK⟩ := hv
  have hx := B.exec
  have hb := B.bytes
  have hr := B.returns
  have hT : ∀ w ∈ TB, w.before _ s = true := fun w h => atoms_spec (ws := Cond.code yX5_inkOf cX5_inkOf 6 (some .int) :: TB) B.pre w (List.mem_cons_of_mem _ h)
  have hown : s.vm.findClass RX5 = some m.cls := findClass_of_methodNamed B.named
  have hlocks := B.notSynchronized
  have hl := lv_entry ([.ref md, .int (zI (x)), .int (zI (y)), .int (zI (k)), .int (zI (ln))]) (n := 6) (Nat.le_of_ble_eq_true rfl)
  rw [lg_entry_eq]
  generalize (lg_sl ([.ref md, .int (zI (x)), .int (zI (y)), .int (zI (k)), .int (zI (ln))]) ++ List.replicate (6 - (lg_sl ([.ref md, .int (zI (x)), .int (zI (y)), .int (zI (k)), .int (zI (ln))])).length) Slot.unset).toArray = ls at hl ⊢
  have hl : lv_has ls 6 [(0, .ref md), (1, .int (zI (x))), (2, .int (zI (y))), (3, .int (zI (k))), (4, .int (zI (ln)))] := hl
  obtain ⟨hw, hh, hcnt, hmost, hrch, hM, hY, hC, hTb, hT0, hT5, htl, hnc, hcl, hKb⟩ := id hm
  have hpt := md_pts hm
  have hPb : ∀ j, 0 ≤ PPf Y w (w * h) j ∧ PPf Y w (w * h) j ≤ 255 := fun j => hY _
  refine lv_aload_n hx hb dX5_inkOf_0 rfl (lv_at hl 0 rfl) ?_
  refine lv_iload_n hx hb dX5_inkOf_1 rfl (lv_at hl 1 rfl) ?_
  refine lv_iload_n hx hb dX5_inkOf_2 rfl (lv_at hl 2 rfl) ?_
  refine lv_iload_n hx hb dX5_inkOf_3 rfl (lv_at hl 3 rfl) ?_
  refine z_callV (q0 := 0) (G := G) (As := [.int (zI (x)), .int (zI (y)), .int (zI (k))]) (rest := []) hx hb hml hown hT hK (c_X5_byteAt l G md ma mb mc mt m1 m2 m3 m4 m5 m6 m7 th w h cnt most rch tl nc M Y C T CA CB CN CG CS Z K (x) (y) (k) hm (by omega) (by omega) (by omega)) kc_X5_87 ⟨Nat.le_of_ble_eq_true rfl, Nat.le_of_ble_eq_true rfl⟩ ⟨rfl, rfl⟩ ⟨Nat.zero_le _, Nat.zero_le _⟩ hP rfl rfl rfl rfl hl.1 rfl (Nat.le_of_ble_eq_true rfl) dX5_inkOf_4 ?_
  refine lv_istore (lv' := [(5, .int (zI (((PPf Y w (w * h)) (k * (w * h) + (x + w * y)))))), (0, .ref md), (1, .int (zI (x))), (2, .int (zI (y))), (3, .int (zI (k))), (4, .int (zI (ln)))]) hx hb dX5_inkOf_7 hl (by decide) rfl (fun ls hl => ?_)
  refine lv_iload hx hb dX5_inkOf_9 (lv_at hl 5 rfl) ?_
  refine z_iconst hx hb dX5_inkOf_11 ?_
  refine z_icmp_ne (tgt := 20) hx hb dX5_inkOf_12 (by decide) (by omega) (by omega) (fun h12 => ?_) (fun h12 => ?_)
  · skip
    have hqx := q_xy (w := w) (h := h) (q := ln) (by omega) (by omega)
    have hdm := Int.mul_ediv_add_emod ln w
    have hb1 := hPb (k * (w * h) + (x + w * y))
    have hb2 := hPb (k * (w * h) + (ln % w + w * (ln / w)))
    refine lv_iload hx hb dX5_inkOf_20 (lv_at hl 0 rfl) ?_
    refine lv_aload_n hx hb dX5_inkOf_22 rfl (lv_at hl 1 rfl) ?_
    refine lv_iload hx hb dX5_inkOf_23 (lv_at hl 5 rfl) ?_
    refine lv_aload_n hx hb dX5_inkOf_25 rfl (lv_at hl 1 rfl) ?_
    refine gf_X5_56 hx hb hT hown hK hP 0 rfl rfl dX5_inkOf_26 ?_
    refine z_irem hx hb dX5_inkOf_29 (by omega) (by omega) ?_
    refine lv_iload hx hb dX5_inkOf_30 (lv_at hl 5 rfl) ?_
    refine lv_aload_n hx hb dX5_inkOf_32 rfl (lv_at hl 1 rfl) ?_
    refine gf_X5_56 hx hb hT hown hK hP 0 rfl rfl dX5_inkOf_33 ?_
    refine z_idiv hx hb dX5_inkOf_36 (by omega) (by omega) ?_
    refine lv_iload_n hx hb dX5_inkOf_37 rfl (lv_at hl 4 rfl) ?_
    refine z_callV (q0 := 0) (G := G) (As := [.int (zI ((ln % w))), .int (zI ((ln / w))), .int (zI (k))]) (rest := [.int (zI (((PPf Y w (w * h)) (k * (w * h) + (x + w * y)))))]) hx hb hml hown hT hK (c_X5_byteAt l G md ma mb mc mt m1 m2 m3 m4 m5 m6 m7 th w h cnt most rch tl nc M Y C T CA CB CN CG CS Z K ((ln % w)) ((ln / w)) (k) hm (by omega) (by omega) (by omega)) kc_X5_87 ⟨Nat.le_of_ble_eq_true rfl, Nat.le_of_ble_eq_true rfl⟩ ⟨rfl, rfl⟩ ⟨Nat.zero_le _, Nat.zero_le _⟩ hP rfl rfl rfl rfl hl.1 rfl (Nat.le_of_ble_eq_true rfl) dX5_inkOf_38 ?_
    refine z_callS (G := G) (As := [.int (zI (((PPf Y w (w * h)) (k * (w * h) + (x + w * y))))), .int (zI (((PPf Y w (w * h)) (k * (w * h) + ((ln % w) + w * (ln / w))))))]) (rest := []) hx hb hml hown hT hK (c_X5_more l G (((PPf Y w (w * h)) (k * (w * h) + (x + w * y)))) (((PPf Y w (w * h)) (k * (w * h) + ((ln % w) + w * (ln / w))))) (by omega) (by omega)) kc_X5_80 ⟨Nat.le_of_ble_eq_true rfl, Nat.le_of_ble_eq_true rfl⟩ ⟨rfl, rfl⟩ ⟨Nat.zero_le _, Nat.zero_le _⟩ (hP.sub [] rfl) rfl hl.1 rfl (Nat.le_of_ble_eq_true rfl) dX5_inkOf_41 ?_
    exact z_iret hx hb hr hlocks (by unfold pW; split <;> first | rfl | omega | (rw [show ln % w + w * (ln / w) = ln by omega])) dX5_inkOf_44
  · skip
    refine lv_iload hx hb dX5_inkOf_15 (lv_at hl 0 rfl) ?_
    refine z_goto (tgt := 44) hx hb dX5_inkOf_17 (by decide) ?_
    exact z_iret hx hb hr hlocks (by unfold pW; split <;> first | rfl | omega | (rw [show ln % w + w * (ln / w) = ln by omega])) dX5_inkOf_44

set_option maxHeartbeats 4000000 in
set_option maxRecDepth 100000 in
theorem c_X5_bandOf (l : Launch) (G : zG) (md ma mb mc mt m1 m2 m3 m4 m5 m6 m7 : Nat) (th w h cnt most rch tl nc : Int) (M Y C T CA CB CN CG CS Z K : Int → Int) (x y b ln : Int) (hm : mdOK w h cnt most rch tl nc M Y C T CN CG CS K) (hxx : 0 ≤ x ∧ x < w) (hyy : 0 ≤ y ∧ y < h) (hb3 : 0 ≤ b ∧ b < 3) (hln : -1 ≤ ln ∧ ln < w * h) : zRd l yX5_bandOf cX5_bandOf 8 (some .int) { frames := 2, cells := 0, slots := 0, locals := 48 } G [.ref md, .int (zI (x)), .int (zI (y)), .int (zI (b)), .int (zI (ln))] (mdL G md ma mb mc mt m1 m2 m3 m4 m5 m6 m7 th w h cnt most rch tl nc M Y C T CA CB CN CG CS Z K) (bandV M (PPf Y w (w * h)) (w * h) cnt b (x + w * y) ln) := by
  refine Met.ofW (cc := cX5_bandOf) (maxL := 8) (ret := (some .int)) (by decide) rfl ?_
  intro p e s m args below meth c s₁ B hml hv
  obtain ⟨rfl, hP, hK⟩ := hv
  have hx := B.exec
  have hb := B.bytes
  have hr := B.returns
  have hT : ∀ w ∈ TB, w.before _ s = true := fun w h => atoms_spec (ws := Cond.code yX5_bandOf cX5_bandOf 8 (some .int) :: TB) B.pre w (List.mem_cons_of_mem _ h)
  have hown : s.vm.findClass RX5 = some m.cls := findClass_of_methodNamed B.named
  have hlocks := B.notSynchronized
  have hl := lv_entry ([.ref md, .int (zI (x)), .int (zI (y)), .int (zI (b)), .int (zI (ln))]) (n := 8) (Nat.le_of_ble_eq_true rfl)
  rw [lg_entry_eq]
  generalize (lg_sl ([.ref md, .int (zI (x)), .int (zI (y)), .int (zI (b)), .int (zI (ln))]) ++ List.replicate (8 - (lg_sl ([.ref md, .int (zI (x)), .int (zI (y)), .int (zI (b)), .int (zI (ln))])).length) Slot.unset).toArray = ls at hl ⊢
  have hl : lv_has ls 8 [(0, .ref md), (1, .int (zI (x))), (2, .int (zI (y))), (3, .int (zI (b))), (4, .int (zI (ln)))] := hl
  obtain ⟨hw, hh, hcnt, hmost, hrch, hM, hY, hC, hTb, hT0, hT5, htl, hnc, hcl, hKb⟩ := id hm
  have hpt := md_pts hm
  have hPb : ∀ j, 0 ≤ PPf Y w (w * h) j ∧ PPf Y w (w * h) j ≤ 255 := fun j => hY _
  refine z_sipush hx hb dX5_bandOf_0 (by decide +kernel) ?_
  refine lv_istore (lv' := [(5, .int (zI (255))), (0, .ref md), (1, .int (zI (x))), (2, .int (zI (y))), (3, .int (zI (b))), (4, .int (zI (ln)))]) hx hb dX5_bandOf_3 hl (by decide) rfl (fun ls hl => ?_)
  refine z_iconst hx hb dX5_bandOf_5 ?_
  refine lv_istore (lv' := [(6, .int (zI (0))), (5, .int (zI (255))), (0, .ref md), (1, .int (zI (x))), (2, .int (zI (y))), (3, .int (zI (b))), (4, .int (zI (ln)))]) hx hb dX5_bandOf_6 hl (by decide) rfl (fun ls hl => ?_)
  refine z_loop (σ := Int × Array Slot) (fun zq => F0 m 8 (zq.2) []) (fun zq => (0 ≤ zq.1 ∧ zq.1 ≤ cnt) ∧ lv_has (zq.2) 8 [(0, .ref md), (1, .int (zI (x))), (2, .int (zI (y))), (3, .int (zI (b))), (4, .int (zI (ln))), (5, .int (zI (bnd (fun j => pW (PPf Y w (w * h)) (w * h) j (x + w * y) ln) (fun j => stg M j b) zq.1.toNat))), (6, .int (zI (zq.1)))]) (fun zq => (cnt - zq.1).toNat) ?_ (0, ls) ⟨by refine ⟨?_, ?_⟩ <;> omega, lv_sub hl [2, 3, 4, 5, 6, 1, 0] rfl⟩
  intro zq hq ih
  obtain ⟨k, ls⟩ := zq
  obtain ⟨hI, hl⟩ := hq
  try dsimp only at hI hl ih ⊢
  have ih8 := ih
  refine lv_iload hx hb dX5_bandOf_8 (lv_at hl 6 rfl) ?_
  refine lv_aload_n hx hb dX5_bandOf_10 rfl (lv_at hl 0 rfl) ?_
  refine gf_X5_7 hx hb hT hown hK hP 0 rfl rfl dX5_bandOf_11 ?_
  refine z_icmp_ge (tgt := 82) hx hb dX5_bandOf_14 (by decide) (by omega) (by omega) (fun h14 => ?_) (fun h14 => ?_)
  · skip
    refine lv_iload hx hb dX5_bandOf_82 (lv_at hl 5 rfl) ?_
    exact z_iret hx hb hr hlocks (by have hkc : k = cnt := (by omega); subst hkc; rfl) dX5_bandOf_84
  · skip
    have hf1 : 0 ≤ bnd (fun j => pW (PPf Y w (w * h)) (w * h) j (x + w * y) ln) (fun j => stg M j b) k.toNat ∧ bnd (fun j => pW (PPf Y w (w * h)) (w * h) j (x + w * y) ln) (fun j => stg M j b) k.toNat ≤ 255 := bnd_b (fun j => pW_b hPb _ _ _ _) (fun j => stg_b hM _ _) _
    have hf2 := pW_b hPb (w * h) k (x + w * y) ln
    have hf3 := stg_b hM k b
    have hf4 := bnd_step hf1 hf2 hf3
    have hm1 := hM (4 * k + b)
    have hm2 := hM (4 * k + 3)
    refine lv_aload_n hx hb dX5_bandOf_17 rfl (lv_at hl 0 rfl) ?_
    refine gf_X5_13 hx hb hT hown hK hP 0 rfl rfl dX5_bandOf_18 ?_
    refine z_iconst hx hb dX5_bandOf_21 ?_
    refine lv_iload hx hb dX5_bandOf_22 (lv_at hl 6 rfl) ?_
    refine z_imul hx hb dX5_bandOf_24 ?_
    refine lv_iload_n hx hb dX5_bandOf_25 rfl (lv_at hl 3 rfl) ?_
    refine z_iadd hx hb dX5_bandOf_26 ?_
    refine z_iald hx hb hK hP 1 rfl (⟨by omega, by omega, by omega⟩) dX5_bandOf_27 ?_
    refine lv_aload_n hx hb dX5_bandOf_28 rfl (lv_at hl 0 rfl) ?_
    refine gf_X5_13 hx hb hT hown hK hP 0 rfl rfl dX5_bandOf_29 ?_
    refine z_iconst hx hb dX5_bandOf_32 ?_
    refine lv_iload hx hb dX5_bandOf_33 (lv_at hl 6 rfl) ?_
    refine z_imul hx hb dX5_bandOf_35 ?_
    refine z_iconst hx hb dX5_bandOf_36 ?_
    refine z_iadd hx hb dX5_bandOf_37 ?_
    refine z_iald hx hb hK hP 1 rfl (⟨by omega, by omega, by omega⟩) dX5_bandOf_38 ?_
    refine z_iadd hx hb dX5_bandOf_39 ?_
    refine z_sipush hx hb dX5_bandOf_40 (by decide +kernel) ?_
    refine z_callS (G := G) (As := [.int (zI (((M ((4 * k) + b)) + (M ((4 * k) + 3))))), .int (zI (255))]) (rest := []) hx hb hml hown hT hK (c_X5_less l G (((M ((4 * k) + b)) + (M ((4 * k) + 3)))) (255) (by omega) (by omega)) kc_X5_76 ⟨Nat.le_of_ble_eq_true rfl, Nat.le_of_ble_eq_true rfl⟩ ⟨rfl, rfl⟩ ⟨Nat.zero_le _, Nat.zero_le _⟩ (hP.sub [] rfl) rfl hl.1 rfl (Nat.le_of_ble_eq_true rfl) dX5_bandOf_43 ?_
    refine z_top (stg M k b) (by unfold stg; rw [show 4 * k + b = k * 4 + b by omega, show 4 * k + 3 = k * 4 + 3 by omega]; omega) ?_
    refine lv_istore (lv' := [(7, .int (zI (stg M k b))), (0, .ref md), (1, .int (zI (x))), (2, .int (zI (y))), (3, .int (zI (b))), (4, .int (zI (ln))), (5, .int (zI (bnd (fun j => pW (PPf Y w (w * h)) (w * h) j (x + w * y) ln) (fun j => stg M j b) k.toNat))), (6, .int (zI (k)))]) hx hb dX5_bandOf_46 hl (by decide) rfl (fun ls hl => ?_)
    refine lv_iload hx hb dX5_bandOf_48 (lv_at hl 6 rfl) ?_
    refine lv_ldc (v := zI (65025)) hx hb hown (hT _ (mT 673 (by decide +kernel) rfl)) dX5_bandOf_50 ?_
    refine lv_aload_n hx hb dX5_bandOf_52 rfl (lv_at hl 1 rfl) ?_
    refine lv_iload_n hx hb dX5_bandOf_53 rfl (lv_at hl 2 rfl) ?_
    refine lv_iload_n hx hb dX5_bandOf_54 rfl (lv_at hl 3 rfl) ?_
    refine lv_iload hx hb dX5_bandOf_55 (lv_at hl 7 rfl) ?_
    refine lv_iload hx hb dX5_bandOf_57 (lv_at hl 5 rfl) ?_
    refine z_callV (q0 := 0) (G := G) (As := [.int (zI (x)), .int (zI (y)), .int (zI (k)), .int (zI (ln))]) (rest := [.int (zI ((65025))), .int (zI (bnd (fun j => pW (PPf Y w (w * h)) (w * h) j (x + w * y) ln) (fun j => stg M j b) k.toNat))]) hx hb hml hown hT hK (c_X5_inkOf l G md ma mb mc mt m1 m2 m3 m4 m5 m6 m7 th w h cnt most rch tl nc M Y C T CA CB CN CG CS Z K (x) (y) (k) (ln) hm (by omega) (by omega) (by omega) (by omega)) kc_X5_92 ⟨Nat.le_of_ble_eq_true rfl, Nat.le_of_ble_eq_true rfl⟩ ⟨rfl, rfl⟩ ⟨Nat.zero_le _, Nat.zero_le _⟩ hP rfl rfl rfl rfl hl.1 rfl (Nat.le_of_ble_eq_true rfl) dX5_bandOf_59 ?_
    refine lv_iload hx hb dX5_bandOf_62 (lv_at hl 0 rfl) ?_
    refine z_imul hx hb dX5_bandOf_64 ?_
    refine z_isub hx hb dX5_bandOf_65 ?_
    refine z_imul hx hb dX5_bandOf_66 ?_
    refine z_sipush hx hb dX5_bandOf_67 (by decide +kernel) ?_
    refine z_iadd hx hb dX5_bandOf_70 ?_
    refine lv_ldc (v := zI (65025)) hx hb hown (hT _ (mT 673 (by decide +kernel) rfl)) dX5_bandOf_71 ?_
    refine z_idiv hx hb dX5_bandOf_73 (by omega) (by omega) ?_
    refine z_top (bnd (fun j => pW (PPf Y w (w * h)) (w * h) j (x + w * y) ln) (fun j => stg M j b) (k + 1).toNat) ((bnd_s _ _ (by omega)).symm) ?_
    refine lv_istore (lv' := [(5, .int (zI (bnd (fun j => pW (PPf Y w (w * h)) (w * h) j (x + w * y) ln) (fun j => stg M j b) (k + 1).toNat))), (7, .int (zI (stg M k b))), (0, .ref md), (1, .int (zI (x))), (2, .int (zI (y))), (3, .int (zI (b))), (4, .int (zI (ln))), (6, .int (zI (k)))]) hx hb dX5_bandOf_74 hl (by decide) rfl (fun ls hl => ?_)
    refine lv_iinc (v := zI (k + (1))) (lv' := [(6, .int (zI (k + (1)))), (5, .int (zI (bnd (fun j => pW (PPf Y w (w * h)) (w * h) j (x + w * y) ln) (fun j => stg M j b) (k + 1).toNat))), (7, .int (zI (stg M k b))), (0, .ref md), (1, .int (zI (x))), (2, .int (zI (y))), (3, .int (zI (b))), (4, .int (zI (ln)))]) hx hb dX5_bandOf_76 hl (k := 7) rfl (zI_add _ _) (by decide) rfl (fun ls hl => ?_)
    refine z_goto (tgt := 8) hx hb dX5_bandOf_79 (by decide) ?_
    exact ih8 (k + 1, ls) ⟨by refine ⟨?_, ?_⟩ <;> omega, lv_sub hl [3, 4, 5, 6, 7, 1, 0] rfl⟩ (by omega)

set_option maxHeartbeats 4000000 in
set_option maxRecDepth 100000 in
theorem c_X5_lightness (l : Launch) (G : zG) (md ma mb mc mt m1 m2 m3 m4 m5 m6 m7 : Nat) (th w h cnt most rch tl nc : Int) (M Y C T CA CB CN CG CS Z K : Int → Int) (x y : Int) (hm : mdOK w h cnt most rch tl nc M Y C T CN CG CS K) (hxx : 0 ≤ x ∧ x < w) (hyy : 0 ≤ y ∧ y < h) : zRd l yX5_lightness cX5_lightness 3 (some .int) { frames := 3, cells := 0, slots := 0, locals := 75 } G [.ref md, .int (zI (x)), .int (zI (y))] (mdL G md ma mb mc mt m1 m2 m3 m4 m5 m6 m7 th w h cnt most rch tl nc M Y C T CA CB CN CG CS Z K) (lightV M (PPf Y w (w * h)) (w * h) cnt (x + w * y)) := by
  refine Met.ofW (cc := cX5_lightness) (maxL := 3) (ret := (some .int)) (by decide) rfl ?_
  intro p e s m args below meth c s₁ B hml hv
  obtain ⟨rfl, hP, hK⟩ := hv
  have hx := B.exec
  have hb := B.bytes
  have hr := B.returns
  have hT : ∀ w ∈ TB, w.before _ s = true := fun w h => atoms_spec (ws := Cond.code yX5_lightness cX5_lightness 3 (some .int) :: TB) B.pre w (List.mem_cons_of_mem _ h)
  have hown : s.vm.findClass RX5 = some m.cls := findClass_of_methodNamed B.named
  have hlocks := B.notSynchronized
  have hl := lv_entry ([.ref md, .int (zI (x)), .int (zI (y))]) (n := 3) (Nat.le_of_ble_eq_true rfl)
  rw [lg_entry_eq]
  generalize (lg_sl ([.ref md, .int (zI (x)), .int (zI (y))]) ++ List.replicate (3 - (lg_sl ([.ref md, .int (zI (x)), .int (zI (y))])).length) Slot.unset).toArray = ls at hl ⊢
  have hl : lv_has ls 3 [(0, .ref md), (1, .int (zI (x))), (2, .int (zI (y)))] := hl
  obtain ⟨hw, hh, hcnt, hmost, hrch, hM, hY, hC, hTb, hT0, hT5, htl, hnc, hcl, hKb⟩ := id hm
  have hpt := md_pts hm
  have hPb : ∀ j, 0 ≤ PPf Y w (w * h) j ∧ PPf Y w (w * h) j ≤ 255 := fun j => hY _
  have hb0 := bandV_b hM hPb (w * h) cnt 0 (x + w * y) (-1)
  have hb1 := bandV_b hM hPb (w * h) cnt 1 (x + w * y) (-1)
  have hb2 := bandV_b hM hPb (w * h) cnt 2 (x + w * y) (-1)
  refine z_bipush hx hb dX5_lightness_0 (by decide +kernel) ?_
  refine lv_aload_n hx hb dX5_lightness_2 rfl (lv_at hl 0 rfl) ?_
  refine lv_iload_n hx hb dX5_lightness_3 rfl (lv_at hl 1 rfl) ?_
  refine lv_iload_n hx hb dX5_lightness_4 rfl (lv_at hl 2 rfl) ?_
  refine z_iconst hx hb dX5_lightness_5 ?_
  refine z_iconst hx hb dX5_lightness_6 ?_
  refine z_callV (q0 := 0) (G := G) (As := [.int (zI (x)), .int (zI (y)), .int (zI (0)), .int (zI ((-1)))]) (rest := [.int (zI (30))]) hx hb hml hown hT hK (c_X5_bandOf l G md ma mb mc mt m1 m2 m3 m4 m5 m6 m7 th w h cnt most rch tl nc M Y C T CA CB CN CG CS Z K (x) (y) (0) ((-1)) hm (by omega) (by omega) (by omega) (by omega)) kc_X5_96 ⟨Nat.le_of_ble_eq_true rfl, Nat.le_of_ble_eq_true rfl⟩ ⟨rfl, rfl⟩ ⟨Nat.zero_le _, Nat.zero_le _⟩ hP rfl rfl rfl rfl hl.1 rfl (Nat.le_of_ble_eq_true rfl) dX5_lightness_7 ?_
  refine z_imul hx hb dX5_lightness_10 ?_
  refine z_bipush hx hb dX5_lightness_11 (by decide +kernel) ?_
  refine lv_aload_n hx hb dX5_lightness_13 rfl (lv_at hl 0 rfl) ?_
  refine lv_iload_n hx hb dX5_lightness_14 rfl (lv_at hl 1 rfl) ?_
  refine lv_iload_n hx hb dX5_lightness_15 rfl (lv_at hl 2 rfl) ?_
  refine z_iconst hx hb dX5_lightness_16 ?_
  refine z_iconst hx hb dX5_lightness_17 ?_
  refine z_callV (q0 := 0) (G := G) (As := [.int (zI (x)), .int (zI (y)), .int (zI (1)), .int (zI ((-1)))]) (rest := [.int (zI (59)), .int (zI ((30 * (bandV M (PPf Y w (w * h)) (w * h) cnt 0 (x + w * y) (-1)))))]) hx hb hml hown hT hK (c_X5_bandOf l G md ma mb mc mt m1 m2 m3 m4 m5 m6 m7 th w h cnt most rch tl nc M Y C T CA CB CN CG CS Z K (x) (y) (1) ((-1)) hm (by omega) (by omega) (by omega) (by omega)) kc_X5_96 ⟨Nat.le_of_ble_eq_true rfl, Nat.le_of_ble_eq_true rfl⟩ ⟨rfl, rfl⟩ ⟨Nat.zero_le _, Nat.zero_le _⟩ hP rfl rfl rfl rfl hl.1 rfl (Nat.le_of_ble_eq_true rfl) dX5_lightness_18 ?_
  refine z_imul hx hb dX5_lightness_21 ?_
  refine z_iadd hx hb dX5_lightness_22 ?_
  refine z_bipush hx hb dX5_lightness_23 (by decide +kernel) ?_
  refine lv_aload_n hx hb dX5_lightness_25 rfl (lv_at hl 0 rfl) ?_
  refine lv_iload_n hx hb dX5_lightness_26 rfl (lv_at hl 1 rfl) ?_
  refine lv_iload_n hx hb dX5_lightness_27 rfl (lv_at hl 2 rfl) ?_
  refine z_iconst hx hb dX5_lightness_28 ?_
  refine z_iconst hx hb dX5_lightness_29 ?_
  refine z_callV (q0 := 0) (G := G) (As := [.int (zI (x)), .int (zI (y)), .int (zI (2)), .int (zI ((-1)))]) (rest := [.int (zI (11)), .int (zI (((30 * (bandV M (PPf Y w (w * h)) (w * h) cnt 0 (x + w * y) (-1))) + (59 * (bandV M (PPf Y w (w * h)) (w * h) cnt 1 (x + w * y) (-1))))))]) hx hb hml hown hT hK (c_X5_bandOf l G md ma mb mc mt m1 m2 m3 m4 m5 m6 m7 th w h cnt most rch tl nc M Y C T CA CB CN CG CS Z K (x) (y) (2) ((-1)) hm (by omega) (by omega) (by omega) (by omega)) kc_X5_96 ⟨Nat.le_of_ble_eq_true rfl, Nat.le_of_ble_eq_true rfl⟩ ⟨rfl, rfl⟩ ⟨Nat.zero_le _, Nat.zero_le _⟩ hP rfl rfl rfl rfl hl.1 rfl (Nat.le_of_ble_eq_true rfl) dX5_lightness_30 ?_
  refine z_imul hx hb dX5_lightness_33 ?_
  refine z_iadd hx hb dX5_lightness_34 ?_
  refine z_bipush hx hb dX5_lightness_35 (by decide +kernel) ?_
  refine z_idiv hx hb dX5_lightness_37 (by omega) (by omega) ?_
  exact z_iret hx hb hr hlocks (rfl) dX5_lightness_38

set_option maxHeartbeats 4000000 in
set_option maxRecDepth 100000 in
theorem c_X5_areUnlike (l : Launch) (G : zG) (md ma mb mc mt m1 m2 m3 m4 m5 m6 m7 : Nat) (th w h cnt most rch tl nc : Int) (M Y C T CA CB CN CG CS Z K : Int → Int) (x y u v : Int) (hm : mdOK w h cnt most rch tl nc M Y C T CN CG CS K) (hxx : 0 ≤ x ∧ x < w) (hyy : 0 ≤ y ∧ y < h) (huu : 0 ≤ u ∧ u < w) (hvv : 0 ≤ v ∧ v < h) : zRd l yX5_areUnlike cX5_areUnlike 11 (some .boolean) { frames := 1, cells := 0, slots := 0, locals := 23 } G [.ref md, .int (zI (x)), .int (zI (y)), .int (zI (u)), .int (zI (v))] (mdL G md ma mb mc mt m1 m2 m3 m4 m5 m6 m7 th w h cnt most rch tl nc M Y C T CA CB CN CG CS Z K) (bI (unlB (PPf Y w (w * h)) (w * h) cnt (x + w * y) (u + w * v))) := by
  refine Met.ofW (cc := cX5_areUnlike) (maxL := 11) (ret := (some .boolean)) (by decide) rfl ?_
  intro p e s m args below meth c s₁ B hml hv
  obtain ⟨rfl, hP, hK⟩ := hv
  have hx := B.exec
  have hb := B.bytes
  have hr := B.returns
  have hT : ∀ w ∈ TB, w.before _ s = true := fun w h => atoms_spec (ws := Cond.code yX5_areUnlike cX5_areUnlike 11 (some .boolean) :: TB) B.pre w (List.mem_cons_of_mem _ h)
  have hown : s.vm.findClass RX5 = some m.cls := findClass_of_methodNamed B.named
  have hlocks := B.notSynchronized
  have hl := lv_entry ([.ref md, .int (zI (x)), .int (zI (y)), .int (zI (u)), .int (zI (v))]) (n := 11) (Nat.le_of_ble_eq_true rfl)
  rw [lg_entry_eq]
  generalize (lg_sl ([.ref md, .int (zI (x)), .int (zI (y)), .int (zI (u)), .int (zI (v))]) ++ List.replicate (11 - (lg_sl ([.ref md, .int (zI (x)), .int (zI (y)), .int (zI (u)), .int (zI (v))])).length) Slot.unset).toArray = ls at hl ⊢
  have hl : lv_has ls 11 [(0, .ref md), (1, .int (zI (x))), (2, .int (zI (y))), (3, .int (zI (u))), (4, .int (zI (v)))] := hl
  obtain ⟨hw, hh, hcnt, hmost, hrch, hM, hY, hC, hTb, hT0, hT5, htl, hnc, hcl, hKb⟩ := id hm
  have hpt := md_pts hm
  have hPb : ∀ j, 0 ≤ PPf Y w (w * h) j ∧ PPf Y w (w * h) j ≤ 255 := fun j => hY _
  refine z_iconst hx hb dX5_areUnlike_0 ?_
  refine lv_istore (lv' := [(5, .int (zI (0))), (0, .ref md), (1, .int (zI (x))), (2, .int (zI (y))), (3, .int (zI (u))), (4, .int (zI (v)))]) hx hb dX5_areUnlike_1 hl (by decide) rfl (fun ls hl => ?_)
  refine z_iconst hx hb dX5_areUnlike_3 ?_
  refine lv_istore (lv' := [(6, .int (zI (0))), (5, .int (zI (0))), (0, .ref md), (1, .int (zI (x))), (2, .int (zI (y))), (3, .int (zI (u))), (4, .int (zI (v)))]) hx hb dX5_areUnlike_4 hl (by decide) rfl (fun ls hl => ?_)
  refine z_iconst hx hb dX5_areUnlike_6 ?_
  refine lv_istore (lv' := [(7, .int (zI (0))), (6, .int (zI (0))), (5, .int (zI (0))), (0, .ref md), (1, .int (zI (x))), (2, .int (zI (y))), (3, .int (zI (u))), (4, .int (zI (v)))]) hx hb dX5_areUnlike_7 hl (by decide) rfl (fun ls hl => ?_)
  refine z_iconst hx hb dX5_areUnlike_9 ?_
  refine lv_istore (lv' := [(8, .int (zI (0))), (7, .int (zI (0))), (6, .int (zI (0))), (5, .int (zI (0))), (0, .ref md), (1, .int (zI (x))), (2, .int (zI (y))), (3, .int (zI (u))), (4, .int (zI (v)))]) hx hb dX5_areUnlike_10 hl (by decide) rfl (fun ls hl => ?_)
  refine z_loop (σ := Int × Array Slot) (fun zq => F0 m 12 (zq.2) []) (fun zq => (0 ≤ zq.1 ∧ zq.1 ≤ cnt) ∧ lv_has (zq.2) 11 [(0, .ref md), (1, .int (zI (x))), (2, .int (zI (y))), (3, .int (zI (u))), (4, .int (zI (v))), (5, .int (zI (bI (anyB (fun j => mk25 (PPf Y w (w * h)) (w * h) (x + w * y) j && mk25 (PPf Y w (w * h)) (w * h) (u + w * v) j) zq.1.toNat)))), (6, .int (zI (bI (anyB (mk25 (PPf Y w (w * h)) (w * h) (x + w * y)) zq.1.toNat)))), (7, .int (zI (bI (anyB (mk25 (PPf Y w (w * h)) (w * h) (u + w * v)) zq.1.toNat)))), (8, .int (zI (zq.1)))]) (fun zq => (cnt - zq.1).toNat) ?_ (0, ls) ⟨by refine ⟨?_, ?_⟩ <;> omega, lv_sub hl [4, 5, 6, 7, 8, 3, 2, 1, 0] rfl⟩
  intro zq hq ih
  obtain ⟨k, ls⟩ := zq
  obtain ⟨hI, hl⟩ := hq
  try dsimp only at hI hl ih ⊢
  have ih12 := ih
  refine lv_iload hx hb dX5_areUnlike_12 (lv_at hl 8 rfl) ?_
  refine lv_aload_n hx hb dX5_areUnlike_14 rfl (lv_at hl 0 rfl) ?_
  refine gf_X5_7 hx hb hT hown hK hP 0 rfl rfl dX5_areUnlike_15 ?_
  refine z_icmp_ge (tgt := 124) hx hb dX5_areUnlike_18 (by decide) (by omega) (by omega) (fun h18 => ?_) (fun h18 => ?_)
  · skip
    have hkc : k = cnt := by omega
    subst hkc
    have h93 := bI_01 (anyB (fun j => mk25 (PPf Y w (w * h)) (w * h) (x + w * y) j && mk25 (PPf Y w (w * h)) (w * h) (u + w * v) j) k.toNat)
    have h94 := bI_01 (anyB (mk25 (PPf Y w (w * h)) (w * h) (x + w * y)) k.toNat)
    have h95 := bI_01 (anyB (mk25 (PPf Y w (w * h)) (w * h) (u + w * v)) k.toNat)
    refine lv_iload hx hb dX5_areUnlike_124 (lv_at hl 5 rfl) ?_
    refine z_if_ne (tgt := 143) hx hb dX5_areUnlike_126 (by decide) (by omega) (fun h126 => ?_) (fun h126 => ?_)
    · skip
      refine z_iconst hx hb dX5_areUnlike_143 ?_
      exact z_zret hx hb hr hlocks (by omega) (by unfold unlB; cases hC9 : anyB (fun j => mk25 (PPf Y w (w * h)) (w * h) (x + w * y) j && mk25 (PPf Y w (w * h)) (w * h) (u + w * v) j) k.toNat <;> cases hA9 : anyB (mk25 (PPf Y w (w * h)) (w * h) (x + w * y)) k.toNat <;> cases hB9 : anyB (mk25 (PPf Y w (w * h)) (w * h) (u + w * v)) k.toNat <;> simp_all [bI]) dX5_areUnlike_144
    · skip
      refine lv_iload hx hb dX5_areUnlike_129 (lv_at hl 6 rfl) ?_
      refine z_if_eq (tgt := 143) hx hb dX5_areUnlike_131 (by decide) (by omega) (fun h131 => ?_) (fun h131 => ?_)
      · skip
        refine z_iconst hx hb dX5_areUnlike_143 ?_
        exact z_zret hx hb hr hlocks (by omega) (by unfold unlB; cases hC9 : anyB (fun j => mk25 (PPf Y w (w * h)) (w * h) (x + w * y) j && mk25 (PPf Y w (w * h)) (w * h) (u + w * v) j) k.toNat <;> cases hA9 : anyB (mk25 (PPf Y w (w * h)) (w * h) (x + w * y)) k.toNat <;> cases hB9 : anyB (mk25 (PPf Y w (w * h)) (w * h) (u + w * v)) k.toNat <;> simp_all [bI]) dX5_areUnlike_144
      · skip
        refine lv_iload hx hb dX5_areUnlike_134 (lv_at hl 7 rfl) ?_
        refine z_if_eq (tgt := 143) hx hb dX5_areUnlike_136 (by decide) (by omega) (fun h136 => ?_) (fun h136 => ?_)
        · skip
          refine z_iconst hx hb dX5_areUnlike_143 ?_
          exact z_zret hx hb hr hlocks (by omega) (by unfold unlB; cases hC9 : anyB (fun j => mk25 (PPf Y w (w * h)) (w * h) (x + w * y) j && mk25 (PPf Y w (w * h)) (w * h) (u + w * v) j) k.toNat <;> cases hA9 : anyB (mk25 (PPf Y w (w * h)) (w * h) (x + w * y)) k.toNat <;> cases hB9 : anyB (mk25 (PPf Y w (w * h)) (w * h) (u + w * v)) k.toNat <;> simp_all [bI]) dX5_areUnlike_144
        · skip
          refine z_iconst hx hb dX5_areUnlike_139 ?_
          refine z_goto (tgt := 144) hx hb dX5_areUnlike_140 (by decide) ?_
          exact z_zret hx hb hr hlocks (by omega) (by unfold unlB; cases hC9 : anyB (fun j => mk25 (PPf Y w (w * h)) (w * h) (x + w * y) j && mk25 (PPf Y w (w * h)) (w * h) (u + w * v) j) k.toNat <;> cases hA9 : anyB (mk25 (PPf Y w (w * h)) (w * h) (x + w * y)) k.toNat <;> cases hB9 : anyB (mk25 (PPf Y w (w * h)) (w * h) (u + w * v)) k.toNat <;> simp_all [bI]) dX5_areUnlike_144
  · skip
    have hb1 := hPb (k * (w * h) + (x + w * y))
    have hb2 := hPb (k * (w * h) + (u + w * v))
    refine z_cut (σ := Array Slot) (fun zq => F0 m 39 (zq) [.int (zI (bI (mk25 (PPf Y w (w * h)) (w * h) (x + w * y) k)))]) (fun zq => (True) ∧ lv_has (zq) 11 [(0, .ref md), (1, .int (zI (x))), (2, .int (zI (y))), (3, .int (zI (u))), (4, .int (zI (v))), (5, .int (zI (bI (anyB (fun j => mk25 (PPf Y w (w * h)) (w * h) (x + w * y) j && mk25 (PPf Y w (w * h)) (w * h) (u + w * v) j) k.toNat)))), (6, .int (zI (bI (anyB (mk25 (PPf Y w (w * h)) (w * h) (x + w * y)) k.toNat)))), (7, .int (zI (bI (anyB (mk25 (PPf Y w (w * h)) (w * h) (u + w * v)) k.toNat)))), (8, .int (zI (k)))]) ?_ ?_
    · intro ls hq
      obtain ⟨hJ, hl⟩ := hq
      try dsimp only at hJ hl ⊢
      refine lv_istore (lv' := [(9, .int (zI (bI (mk25 (PPf Y w (w * h)) (w * h) (x + w * y) k)))), (0, .ref md), (1, .int (zI (x))), (2, .int (zI (y))), (3, .int (zI (u))), (4, .int (zI (v))), (5, .int (zI (bI (anyB (fun j => mk25 (PPf Y w (w * h)) (w * h) (x + w * y) j && mk25 (PPf Y w (w * h)) (w * h) (u + w * v) j) k.toNat)))), (6, .int (zI (bI (anyB (mk25 (PPf Y w (w * h)) (w * h) (x + w * y)) k.toNat)))), (7, .int (zI (bI (anyB (mk25 (PPf Y w (w * h)) (w * h) (u + w * v)) k.toNat)))), (8, .int (zI (k)))]) hx hb dX5_areUnlike_39 hl (by decide) rfl (fun ls hl => ?_)
      refine z_cut (σ := Array Slot) (fun zq => F0 m 60 (zq) [.int (zI (bI (mk25 (PPf Y w (w * h)) (w * h) (u + w * v) k)))]) (fun zq => (True) ∧ lv_has (zq) 11 [(9, .int (zI (bI (mk25 (PPf Y w (w * h)) (w * h) (x + w * y) k)))), (0, .ref md), (1, .int (zI (x))), (2, .int (zI (y))), (3, .int (zI (u))), (4, .int (zI (v))), (5, .int (zI (bI (anyB (fun j => mk25 (PPf Y w (w * h)) (w * h) (x + w * y) j && mk25 (PPf Y w (w * h)) (w * h) (u + w * v) j) k.toNat)))), (6, .int (zI (bI (anyB (mk25 (PPf Y w (w * h)) (w * h) (x + w * y)) k.toNat)))), (7, .int (zI (bI (anyB (mk25 (PPf Y w (w * h)) (w * h) (u + w * v)) k.toNat)))), (8, .int (zI (k)))]) ?_ ?_
      · intro ls hq
        obtain ⟨hJ, hl⟩ := hq
        try dsimp only at hJ hl ⊢
        refine lv_istore (lv' := [(10, .int (zI (bI (mk25 (PPf Y w (w * h)) (w * h) (u + w * v) k)))), (9, .int (zI (bI (mk25 (PPf Y w (w * h)) (w * h) (x + w * y) k)))), (0, .ref md), (1, .int (zI (x))), (2, .int (zI (y))), (3, .int (zI (u))), (4, .int (zI (v))), (5, .int (zI (bI (anyB (fun j => mk25 (PPf Y w (w * h)) (w * h) (x + w * y) j && mk25 (PPf Y w (w * h)) (w * h) (u + w * v) j) k.toNat)))), (6, .int (zI (bI (anyB (mk25 (PPf Y w (w * h)) (w * h) (x + w * y)) k.toNat)))), (7, .int (zI (bI (anyB (mk25 (PPf Y w (w * h)) (w * h) (u + w * v)) k.toNat)))), (8, .int (zI (k)))]) hx hb dX5_areUnlike_60 hl (by decide) rfl (fun ls hl => ?_)
        have h91 := bI_01 (mk25 (PPf Y w (w * h)) (w * h) (x + w * y) k)
        have h92 := bI_01 (mk25 (PPf Y w (w * h)) (w * h) (u + w * v) k)
        have h93 := bI_01 (anyB (fun j => mk25 (PPf Y w (w * h)) (w * h) (x + w * y) j && mk25 (PPf Y w (w * h)) (w * h) (u + w * v) j) k.toNat)
        have h94 := bI_01 (anyB (mk25 (PPf Y w (w * h)) (w * h) (x + w * y)) k.toNat)
        have h95 := bI_01 (anyB (mk25 (PPf Y w (w * h)) (w * h) (u + w * v)) k.toNat)
        refine z_cut (σ := Array Slot) (fun zq => F0 m 82 (zq) [.int (zI (bI (anyB (fun j => mk25 (PPf Y w (w * h)) (w * h) (x + w * y) j && mk25 (PPf Y w (w * h)) (w * h) (u + w * v) j) (k + 1).toNat)))]) (fun zq => (True) ∧ lv_has (zq) 11 [(10, .int (zI (bI (mk25 (PPf Y w (w * h)) (w * h) (u + w * v) k)))), (9, .int (zI (bI (mk25 (PPf Y w (w * h)) (w * h) (x + w * y) k)))), (0, .ref md), (1, .int (zI (x))), (2, .int (zI (y))), (3, .int (zI (u))), (4, .int (zI (v))), (5, .int (zI (bI (anyB (fun j => mk25 (PPf Y w (w * h)) (w * h) (x + w * y) j && mk25 (PPf Y w (w * h)) (w * h) (u + w * v) j) k.toNat)))), (6, .int (zI (bI (anyB (mk25 (PPf Y w (w * h)) (w * h) (x + w * y)) k.toNat)))), (7, .int (zI (bI (anyB (mk25 (PPf Y w (w * h)) (w * h) (u + w * v)) k.toNat)))), (8, .int (zI (k)))]) ?_ ?_
        · intro ls hq
          obtain ⟨hJ, hl⟩ := hq
          try dsimp only at hJ hl ⊢
          refine lv_istore (lv' := [(5, .int (zI (bI (anyB (fun j => mk25 (PPf Y w (w * h)) (w * h) (x + w * y) j && mk25 (PPf Y w (w * h)) (w * h) (u + w * v) j) (k + 1).toNat)))), (10, .int (zI (bI (mk25 (PPf Y w (w * h)) (w * h) (u + w * v) k)))), (9, .int (zI (bI (mk25 (PPf Y w (w * h)) (w * h) (x + w * y) k)))), (0, .ref md), (1, .int (zI (x))), (2, .int (zI (y))), (3, .int (zI (u))), (4, .int (zI (v))), (6, .int (zI (bI (anyB (mk25 (PPf Y w (w * h)) (w * h) (x + w * y)) k.toNat)))), (7, .int (zI (bI (anyB (mk25 (PPf Y w (w * h)) (w * h) (u + w * v)) k.toNat)))), (8, .int (zI (k)))]) hx hb dX5_areUnlike_82 hl (by decide) rfl (fun ls hl => ?_)
          refine z_cut (σ := Array Slot) (fun zq => F0 m 99 (zq) [.int (zI (bI (anyB (mk25 (PPf Y w (w * h)) (w * h) (x + w * y)) (k + 1).toNat)))]) (fun zq => (True) ∧ lv_has (zq) 11 [(5, .int (zI (bI (anyB (fun j => mk25 (PPf Y w (w * h)) (w * h) (x + w * y) j && mk25 (PPf Y w (w * h)) (w * h) (u + w * v) j) (k + 1).toNat)))), (10, .int (zI (bI (mk25 (PPf Y w (w * h)) (w * h) (u + w * v) k)))), (9, .int (zI (bI (mk25 (PPf Y w (w * h)) (w * h) (x + w * y) k)))), (0, .ref md), (1, .int (zI (x))), (2, .int (zI (y))), (3, .int (zI (u))), (4, .int (zI (v))), (6, .int (zI (bI (anyB (mk25 (PPf Y w (w * h)) (w * h) (x + w * y)) k.toNat)))), (7, .int (zI (bI (anyB (mk25 (PPf Y w (w * h)) (w * h) (u + w * v)) k.toNat)))), (8, .int (zI (k)))]) ?_ ?_
          · intro ls hq
            obtain ⟨hJ, hl⟩ := hq
            try dsimp only at hJ hl ⊢
            refine lv_istore (lv' := [(6, .int (zI (bI (anyB (mk25 (PPf Y w (w * h)) (w * h) (x + w * y)) (k + 1).toNat)))), (5, .int (zI (bI (anyB (fun j => mk25 (PPf Y w (w * h)) (w * h) (x + w * y) j && mk25 (PPf Y w (w * h)) (w * h) (u + w * v) j) (k + 1).toNat)))), (10, .int (zI (bI (mk25 (PPf Y w (w * h)) (w * h) (u + w * v) k)))), (9, .int (zI (bI (mk25 (PPf Y w (w * h)) (w * h) (x + w * y) k)))), (0, .ref md), (1, .int (zI (x))), (2, .int (zI (y))), (3, .int (zI (u))), (4, .int (zI (v))), (7, .int (zI (bI (anyB (mk25 (PPf Y w (w * h)) (w * h) (u + w * v)) k.toNat)))), (8, .int (zI (k)))]) hx hb dX5_areUnlike_99 hl (by decide) rfl (fun ls hl => ?_)
            refine z_cut (σ := Array Slot) (fun zq => F0 m 116 (zq) [.int (zI (bI (anyB (mk25 (PPf Y w (w * h)) (w * h) (u + w * v)) (k + 1).toNat)))]) (fun zq => (True) ∧ lv_has (zq) 11 [(6, .int (zI (bI (anyB (mk25 (PPf Y w (w * h)) (w * h) (x + w * y)) (k + 1).toNat)))), (5, .int (zI (bI (anyB (fun j => mk25 (PPf Y w (w * h)) (w * h) (x + w * y) j && mk25 (PPf Y w (w * h)) (w * h) (u + w * v) j) (k + 1).toNat)))), (10, .int (zI (bI (mk25 (PPf Y w (w * h)) (w * h) (u + w * v) k)))), (9, .int (zI (bI (mk25 (PPf Y w (w * h)) (w * h) (x + w * y) k)))), (0, .ref md), (1, .int (zI (x))), (2, .int (zI (y))), (3, .int (zI (u))), (4, .int (zI (v))), (7, .int (zI (bI (anyB (mk25 (PPf Y w (w * h)) (w * h) (u + w * v)) k.toNat)))), (8, .int (zI (k)))]) ?_ ?_
            · intro ls hq
              obtain ⟨hJ, hl⟩ := hq
              try dsimp only at hJ hl ⊢
              refine lv_istore (lv' := [(7, .int (zI (bI (anyB (mk25 (PPf Y w (w * h)) (w * h) (u + w * v)) (k + 1).toNat)))), (6, .int (zI (bI (anyB (mk25 (PPf Y w (w * h)) (w * h) (x + w * y)) (k + 1).toNat)))), (5, .int (zI (bI (anyB (fun j => mk25 (PPf Y w (w * h)) (w * h) (x + w * y) j && mk25 (PPf Y w (w * h)) (w * h) (u + w * v) j) (k + 1).toNat)))), (10, .int (zI (bI (mk25 (PPf Y w (w * h)) (w * h) (u + w * v) k)))), (9, .int (zI (bI (mk25 (PPf Y w (w * h)) (w * h) (x + w * y) k)))), (0, .ref md), (1, .int (zI (x))), (2, .int (zI (y))), (3, .int (zI (u))), (4, .int (zI (v))), (8, .int (zI (k)))]) hx hb dX5_areUnlike_116 hl (by decide) rfl (fun ls hl => ?_)
              refine lv_iinc (v := zI (k + (1))) (lv' := [(8, .int (zI (k + (1)))), (7, .int (zI (bI (anyB (mk25 (PPf Y w (w * h)) (w * h) (u + w * v)) (k + 1).toNat)))), (6, .int (zI (bI (anyB (mk25 (PPf Y w (w * h)) (w * h) (x + w * y)) (k + 1).toNat)))), (5, .int (zI (bI (anyB (fun j => mk25 (PPf Y w (w * h)) (w * h) (x + w * y) j && mk25 (PPf Y w (w * h)) (w * h) (u + w * v) j) (k + 1).toNat)))), (10, .int (zI (bI (mk25 (PPf Y w (w * h)) (w * h) (u + w * v) k)))), (9, .int (zI (bI (mk25 (PPf Y w (w * h)) (w * h) (x + w * y) k)))), (0, .ref md), (1, .int (zI (x))), (2, .int (zI (y))), (3, .int (zI (u))), (4, .int (zI (v)))]) hx hb dX5_areUnlike_118 hl (k := 10) rfl (zI_add _ _) (by decide) rfl (fun ls hl => ?_)
              refine z_goto (tgt := 12) hx hb dX5_areUnlike_121 (by decide) ?_
              exact ih12 (k + 1, ls) ⟨by refine ⟨?_, ?_⟩ <;> omega, lv_sub hl [6, 7, 8, 9, 10, 3, 2, 1, 0] rfl⟩ (by omega)
            intro J116
            refine lv_iload hx hb dX5_areUnlike_101 (lv_at hl 9 rfl) ?_
            refine z_if_ne (tgt := 111) hx hb dX5_areUnlike_103 (by decide) (by omega) (fun h103 => ?_) (fun h103 => ?_)
            · skip
              refine z_iconst hx hb dX5_areUnlike_111 ?_
              refine z_goto (tgt := 116) hx hb dX5_areUnlike_112 (by decide) ?_
              refine z_top (bI (anyB (mk25 (PPf Y w (w * h)) (w * h) (u + w * v)) (k + 1).toNat)) (by rw [anyB_s _ (by omega)]; cases hA9 : anyB (mk25 (PPf Y w (w * h)) (w * h) (u + w * v)) k.toNat <;> cases hB9 : mk25 (PPf Y w (w * h)) (w * h) (u + w * v) k <;> simp_all [bI]) ?_
              exact J116 (ls) ⟨trivial, lv_sub hl [0, 1, 2, 3, 4, 5, 6, 7, 8, 9, 10] rfl⟩
            · skip
              refine lv_iload hx hb dX5_areUnlike_106 (lv_at hl 2 rfl) ?_
              refine z_if_eq (tgt := 115) hx hb dX5_areUnlike_108 (by decide) (by omega) (fun h108 => ?_) (fun h108 => ?_)
              · skip
                refine z_iconst hx hb dX5_areUnlike_115 ?_
                refine z_top (bI (anyB (mk25 (PPf Y w (w * h)) (w * h) (u + w * v)) (k + 1).toNat)) (by rw [anyB_s _ (by omega)]; cases hA9 : anyB (mk25 (PPf Y w (w * h)) (w * h) (u + w * v)) k.toNat <;> cases hB9 : mk25 (PPf Y w (w * h)) (w * h) (u + w * v) k <;> simp_all [bI]) ?_
                exact J116 (ls) ⟨trivial, lv_sub hl [0, 1, 2, 3, 4, 5, 6, 7, 8, 9, 10] rfl⟩
              · skip
                refine z_iconst hx hb dX5_areUnlike_111 ?_
                refine z_goto (tgt := 116) hx hb dX5_areUnlike_112 (by decide) ?_
                refine z_top (bI (anyB (mk25 (PPf Y w (w * h)) (w * h) (u + w * v)) (k + 1).toNat)) (by rw [anyB_s _ (by omega)]; cases hA9 : anyB (mk25 (PPf Y w (w * h)) (w * h) (u + w * v)) k.toNat <;> cases hB9 : mk25 (PPf Y w (w * h)) (w * h) (u + w * v) k <;> simp_all [bI]) ?_
                exact J116 (ls) ⟨trivial, lv_sub hl [0, 1, 2, 3, 4, 5, 6, 7, 8, 9, 10] rfl⟩
          intro J99
          refine lv_iload hx hb dX5_areUnlike_84 (lv_at hl 8 rfl) ?_
          refine z_if_ne (tgt := 94) hx hb dX5_areUnlike_86 (by decide) (by omega) (fun h86 => ?_) (fun h86 => ?_)
          · skip
            refine z_iconst hx hb dX5_areUnlike_94 ?_
            refine z_goto (tgt := 99) hx hb dX5_areUnlike_95 (by decide) ?_
            refine z_top (bI (anyB (mk25 (PPf Y w (w * h)) (w * h) (x + w * y)) (k + 1).toNat)) (by rw [anyB_s _ (by omega)]; cases hA9 : anyB (mk25 (PPf Y w (w * h)) (w * h) (x + w * y)) k.toNat <;> cases hB9 : mk25 (PPf Y w (w * h)) (w * h) (x + w * y) k <;> simp_all [bI]) ?_
            exact J99 (ls) ⟨trivial, lv_sub hl [0, 1, 2, 3, 4, 5, 6, 7, 8, 9, 10] rfl⟩
          · skip
            refine lv_iload hx hb dX5_areUnlike_89 (lv_at hl 2 rfl) ?_
            refine z_if_eq (tgt := 98) hx hb dX5_areUnlike_91 (by decide) (by omega) (fun h91 => ?_) (fun h91 => ?_)
            · skip
              refine z_iconst hx hb dX5_areUnlike_98 ?_
              refine z_top (bI (anyB (mk25 (PPf Y w (w * h)) (w * h) (x + w * y)) (k + 1).toNat)) (by rw [anyB_s _ (by omega)]; cases hA9 : anyB (mk25 (PPf Y w (w * h)) (w * h) (x + w * y)) k.toNat <;> cases hB9 : mk25 (PPf Y w (w * h)) (w * h) (x + w * y) k <;> simp_all [bI]) ?_
              exact J99 (ls) ⟨trivial, lv_sub hl [0, 1, 2, 3, 4, 5, 6, 7, 8, 9, 10] rfl⟩
            · skip
              refine z_iconst hx hb dX5_areUnlike_94 ?_
              refine z_goto (tgt := 99) hx hb dX5_areUnlike_95 (by decide) ?_
              refine z_top (bI (anyB (mk25 (PPf Y w (w * h)) (w * h) (x + w * y)) (k + 1).toNat)) (by rw [anyB_s _ (by omega)]; cases hA9 : anyB (mk25 (PPf Y w (w * h)) (w * h) (x + w * y)) k.toNat <;> cases hB9 : mk25 (PPf Y w (w * h)) (w * h) (x + w * y) k <;> simp_all [bI]) ?_
              exact J99 (ls) ⟨trivial, lv_sub hl [0, 1, 2, 3, 4, 5, 6, 7, 8, 9, 10] rfl⟩
        intro J82
        refine lv_iload hx hb dX5_areUnlike_62 (lv_at hl 7 rfl) ?_
        refine z_if_ne (tgt := 77) hx hb dX5_areUnlike_64 (by decide) (by omega) (fun h64 => ?_) (fun h64 => ?_)
        · skip
          refine z_iconst hx hb dX5_areUnlike_77 ?_
          refine z_goto (tgt := 82) hx hb dX5_areUnlike_78 (by decide) ?_
          refine z_top (bI (anyB (fun j => mk25 (PPf Y w (w * h)) (w * h) (x + w * y) j && mk25 (PPf Y w (w * h)) (w * h) (u + w * v) j) (k + 1).toNat)) (by rw [anyB_s _ (by omega)]; cases hA9 : anyB (fun j => mk25 (PPf Y w (w * h)) (w * h) (x + w * y) j && mk25 (PPf Y w (w * h)) (w * h) (u + w * v) j) k.toNat <;> cases hB9 : mk25 (PPf Y w (w * h)) (w * h) (x + w * y) k <;> cases hC9 : mk25 (PPf Y w (w * h)) (w * h) (u + w * v) k <;> simp_all [bI]) ?_
          exact J82 (ls) ⟨trivial, lv_sub hl [0, 1, 2, 3, 4, 5, 6, 7, 8, 9, 10] rfl⟩
        · skip
          refine lv_iload hx hb dX5_areUnlike_67 (lv_at hl 1 rfl) ?_
          refine z_if_eq (tgt := 81) hx hb dX5_areUnlike_69 (by decide) (by omega) (fun h69 => ?_) (fun h69 => ?_)
          · skip
            refine z_iconst hx hb dX5_areUnlike_81 ?_
            refine z_top (bI (anyB (fun j => mk25 (PPf Y w (w * h)) (w * h) (x + w * y) j && mk25 (PPf Y w (w * h)) (w * h) (u + w * v) j) (k + 1).toNat)) (by rw [anyB_s _ (by omega)]; cases hA9 : anyB (fun j => mk25 (PPf Y w (w * h)) (w * h) (x + w * y) j && mk25 (PPf Y w (w * h)) (w * h) (u + w * v) j) k.toNat <;> cases hB9 : mk25 (PPf Y w (w * h)) (w * h) (x + w * y) k <;> cases hC9 : mk25 (PPf Y w (w * h)) (w * h) (u + w * v) k <;> simp_all [bI]) ?_
            exact J82 (ls) ⟨trivial, lv_sub hl [0, 1, 2, 3, 4, 5, 6, 7, 8, 9, 10] rfl⟩
          · skip
            refine lv_iload hx hb dX5_areUnlike_72 (lv_at hl 0 rfl) ?_
            refine z_if_eq (tgt := 81) hx hb dX5_areUnlike_74 (by decide) (by omega) (fun h74 => ?_) (fun h74 => ?_)
            · skip
              refine z_iconst hx hb dX5_areUnlike_81 ?_
              refine z_top (bI (anyB (fun j => mk25 (PPf Y w (w * h)) (w * h) (x + w * y) j && mk25 (PPf Y w (w * h)) (w * h) (u + w * v) j) (k + 1).toNat)) (by rw [anyB_s _ (by omega)]; cases hA9 : anyB (fun j => mk25 (PPf Y w (w * h)) (w * h) (x + w * y) j && mk25 (PPf Y w (w * h)) (w * h) (u + w * v) j) k.toNat <;> cases hB9 : mk25 (PPf Y w (w * h)) (w * h) (x + w * y) k <;> cases hC9 : mk25 (PPf Y w (w * h)) (w * h) (u + w * v) k <;> simp_all [bI]) ?_
              exact J82 (ls) ⟨trivial, lv_sub hl [0, 1, 2, 3, 4, 5, 6, 7, 8, 9, 10] rfl⟩
            · skip
              refine z_iconst hx hb dX5_areUnlike_77 ?_
              refine z_goto (tgt := 82) hx hb dX5_areUnlike_78 (by decide) ?_
              refine z_top (bI (anyB (fun j => mk25 (PPf Y w (w * h)) (w * h) (x + w * y) j && mk25 (PPf Y w (w * h)) (w * h) (u + w * v) j) (k + 1).toNat)) (by rw [anyB_s _ (by omega)]; cases hA9 : anyB (fun j => mk25 (PPf Y w (w * h)) (w * h) (x + w * y) j && mk25 (PPf Y w (w * h)) (w * h) (u + w * v) j) k.toNat <;> cases hB9 : mk25 (PPf Y w (w * h)) (w * h) (x + w * y) k <;> cases hC9 : mk25 (PPf Y w (w * h)) (w * h) (u + w * v) k <;> simp_all [bI]) ?_
              exact J82 (ls) ⟨trivial, lv_sub hl [0, 1, 2, 3, 4, 5, 6, 7, 8, 9, 10] rfl⟩
      intro J60
      refine lv_aload_n hx hb dX5_areUnlike_41 rfl (lv_at hl 1 rfl) ?_
      refine lv_iload_n hx hb dX5_areUnlike_42 rfl (lv_at hl 4 rfl) ?_
      refine lv_iload hx hb dX5_areUnlike_43 (lv_at hl 5 rfl) ?_
      refine lv_iload hx hb dX5_areUnlike_45 (lv_at hl 9 rfl) ?_
      refine z_callV (q0 := 0) (G := G) (As := [.int (zI (u)), .int (zI (v)), .int (zI (k))]) (rest := []) hx hb hml hown hT hK (c_X5_byteAt l G md ma mb mc mt m1 m2 m3 m4 m5 m6 m7 th w h cnt most rch tl nc M Y C T CA CB CN CG CS Z K (u) (v) (k) hm (by omega) (by omega) (by omega)) kc_X5_87 ⟨Nat.le_of_ble_eq_true rfl, Nat.le_of_ble_eq_true rfl⟩ ⟨rfl, rfl⟩ ⟨Nat.zero_le _, Nat.zero_le _⟩ hP rfl rfl rfl rfl hl.1 rfl (Nat.le_of_ble_eq_true rfl) dX5_areUnlike_47 ?_
      refine z_bipush hx hb dX5_areUnlike_50 (by decide +kernel) ?_
      refine z_icmp_lt (tgt := 59) hx hb dX5_areUnlike_52 (by decide) (by omega) (by omega) (fun h52 => ?_) (fun h52 => ?_)
      · skip
        refine z_iconst hx hb dX5_areUnlike_59 ?_
        refine z_top (bI (mk25 (PPf Y w (w * h)) (w * h) (u + w * v) k)) (bI_0 (by omega)) ?_
        exact J60 (ls) ⟨trivial, lv_sub hl [0, 1, 2, 3, 4, 5, 6, 7, 8, 9] rfl⟩
      · skip
        refine z_iconst hx hb dX5_areUnlike_55 ?_
        refine z_goto (tgt := 60) hx hb dX5_areUnlike_56 (by decide) ?_
        refine z_top (bI (mk25 (PPf Y w (w * h)) (w * h) (u + w * v) k)) (bI_1 (by omega)) ?_
        exact J60 (ls) ⟨trivial, lv_sub hl [0, 1, 2, 3, 4, 5, 6, 7, 8, 9] rfl⟩
    intro J39
    refine lv_aload_n hx hb dX5_areUnlike_21 rfl (lv_at hl 0 rfl) ?_
    refine lv_iload_n hx hb dX5_areUnlike_22 rfl (lv_at hl 1 rfl) ?_
    refine lv_iload_n hx hb dX5_areUnlike_23 rfl (lv_at hl 2 rfl) ?_
    refine lv_iload hx hb dX5_areUnlike_24 (lv_at hl 8 rfl) ?_
    refine z_callV (q0 := 0) (G := G) (As := [.int (zI (x)), .int (zI (y)), .int (zI (k))]) (rest := []) hx hb hml hown hT hK (c_X5_byteAt l G md ma mb mc mt m1 m2 m3 m4 m5 m6 m7 th w h cnt most rch tl nc M Y C T CA CB CN CG CS Z K (x) (y) (k) hm (by omega) (by omega) (by omega)) kc_X5_87 ⟨Nat.le_of_ble_eq_true rfl, Nat.le_of_ble_eq_true rfl⟩ ⟨rfl, rfl⟩ ⟨Nat.zero_le _, Nat.zero_le _⟩ hP rfl rfl rfl rfl hl.1 rfl (Nat.le_of_ble_eq_true rfl) dX5_areUnlike_26 ?_
    refine z_bipush hx hb dX5_areUnlike_29 (by decide +kernel) ?_
    refine z_icmp_lt (tgt := 38) hx hb dX5_areUnlike_31 (by decide) (by omega) (by omega) (fun h31 => ?_) (fun h31 => ?_)
    · skip
      refine z_iconst hx hb dX5_areUnlike_38 ?_
      refine z_top (bI (mk25 (PPf Y w (w * h)) (w * h) (x + w * y) k)) (bI_0 (by omega)) ?_
      exact J39 (ls) ⟨trivial, lv_sub hl [0, 1, 2, 3, 4, 5, 6, 7, 8] rfl⟩
    · skip
      refine z_iconst hx hb dX5_areUnlike_34 ?_
      refine z_goto (tgt := 39) hx hb dX5_areUnlike_35 (by decide) ?_
      refine z_top (bI (mk25 (PPf Y w (w * h)) (w * h) (x + w * y) k)) (bI_1 (by omega)) ?_
      exact J39 (ls) ⟨trivial, lv_sub hl [0, 1, 2, 3, 4, 5, 6, 7, 8] rfl⟩
end
section
/-! ===== the reference: lender, curve, same points, runs ===== -/
theorem best_ex (w h rch x y : Int) (cd : Int → Int → Bool) (hw : 0 ≤ w) (hh : 0 ≤ h) : ∃ b f : Int, bestS w h rch x y cd (fun _ _ => True) b f := by
  have row : ∀ (r0 : Int) (b f : Int), bestS w h rch x y cd (fun c r => r < r0) b f → ∀ n : Nat, ∃ b f : Int, bestS w h rch x y cd (fun c r => r < r0 ∨ (r = r0 ∧ c < (n : Int))) b f := by
    intro r0 b f hb n
    induction n with
    | zero => exact ⟨b, f, best_congr (fun c r hw9 => by unfold inWin at hw9; constructor <;> intro h9 <;> omega) hb⟩
    | succ n ih =>
      obtain ⟨b1, f1, h1⟩ := ih
      by_cases q : inWin w h rch x y (n : Int) r0 ∧ cd (n : Int) r0 = true ∧ (b1 = -1 ∨ dsq x y (n : Int) r0 < f1)
      · exact ⟨_, _, best_congr (fun c r _ => by simp) (best_take h1 q.1 q.2.1 q.2.2)⟩
      · refine ⟨b1, f1, best_congr (fun c r _ => by simp) (best_skip h1 ?_)⟩
        by_cases q1 : inWin w h rch x y (n : Int) r0
        · by_cases q2 : cd (n : Int) r0 = true
          · right
            have q3 : ¬ (b1 = -1 ∨ dsq x y (n : Int) r0 < f1) := fun q3 => q ⟨q1, q2, q3⟩
            omega
          · left; intro _; simpa using q2
        · left; intro q4; exact absurd q4 q1
  have all : ∀ n : Nat, ∃ b f : Int, bestS w h rch x y cd (fun c r => r < (n : Int)) b f := by
    intro n
    induction n with
    | zero => exact ⟨-1, 0, best_0 (fun c r hw9 h9 => by unfold inWin at hw9; omega)⟩
    | succ n ih =>
      obtain ⟨b1, f1, h1⟩ := ih
      obtain ⟨b2, f2, h2⟩ := row (n : Int) b1 f1 h1 w.toNat
      exact ⟨b2, f2, best_congr (fun c r hw9 => by unfold inWin at hw9; constructor <;> intro h9 <;> omega) h2⟩
  obtain ⟨b, f, h1⟩ := all h.toNat
  exact ⟨b, f, best_congr (fun c r hw9 => by unfold inWin at hw9; constructor <;> intro h9 <;> first | trivial | omega) h1⟩
theorem lendV_b {w h rch x y : Int} (cd : Int → Int → Bool) (hw : 1 ≤ w) (hh : 1 ≤ h) : -1 ≤ lendV w h rch x y cd ∧ lendV w h rch x y cd < w * h := by
  obtain ⟨b, f, h1⟩ := best_ex w h rch x y cd (by omega) (by omega)
  rw [← lend_eq h1]; exact lend_b hw hh h1
theorem sk_near {M P : Int → Int} {pts cnt w h rch x y c r ds : Int} {B : Prop} (h9 : bI (decide (((c - x) ≤ rch ∧ -(c - x) ≤ rch) ∧ ((r - y) ≤ rch ∧ -(r - y) ≤ rch) ∧ 0 < ds)) = 0) (hds : ds = dsq x y c r) : (inWin w h rch x y c r → cdB M P pts cnt w (x + w * y) c r = false) ∨ B := by
  left; intro hw
  have h1 := of_decide_eq_false (bI_f.mp h9)
  unfold inWin at hw
  have h2 : ¬ 0 < ds := fun q => h1 ⟨by omega, by omega, q⟩
  have sq : ∀ z : Int, 0 ≤ z * z := fun z => by
    rcases Int.le_total 0 z with q | q
    · exact Int.mul_nonneg q q
    · have := Int.mul_nonneg (a := -z) (b := -z) (by omega) (by omega); rwa [Int.neg_mul_neg] at this
  have h3 := sq (c - x); have h4 := sq (r - y)
  have h5 : (c - x) * (c - x) = 0 := by unfold dsq at hds; omega
  have h6 : (r - y) * (r - y) = 0 := by unfold dsq at hds; omega
  have h7 : c - x = 0 := by rcases Int.mul_eq_zero.mp h5 with q | q <;> exact q
  have h8 : r - y = 0 := by rcases Int.mul_eq_zero.mp h6 with q | q <;> exact q
  have e1 : c = x := by omega
  have e2 : r = y := by omega
  unfold cdB; rw [e1, e2, unl_self]; rfl
theorem sk_far2 {b f ds D : Int} {A : Prop} (h0 : ¬ b = -1) (h : f ≤ ds) (hds : ds = D) : A ∨ (b ≠ -1 ∧ f ≤ D) := Or.inr ⟨h0, by omega⟩
/-- the nearest place told below, and above -/
def dnR (T : Int → Int) : Nat → Int
  | 0 => 0
  | n + 1 => if T ((n : Int) + 1) = -1 then dnR T n else (n : Int) + 1
theorem dnR_s (T : Int → Int) {v : Int} (hv : 0 < v) : dnR T v.toNat = if T v = -1 then dnR T (v - 1).toNat else v := by
  have h1 : v.toNat = (v - 1).toNat + 1 := by omega
  have h2 : (((v - 1).toNat : Nat) : Int) + 1 = v := by omega
  rw [h1]; show (if T ((((v - 1).toNat : Nat) : Int) + 1) = -1 then dnR T (v - 1).toNat else (((v - 1).toNat : Nat) : Int) + 1) = _
  rw [h2]
def upR (T : Int → Int) : Nat → Int → Int
  | 0, v => v
  | n + 1, v => if T v = -1 then upR T n (v + 1) else v
theorem upR_s (T : Int → Int) {v : Int} (hv : v < 255) : upR T (255 - v).toNat v = if T v = -1 then upR T (255 - (v + 1)).toNat (v + 1) else v := by
  have h1 : (255 - v).toNat = (255 - (v + 1)).toNat + 1 := by omega
  rw [h1]; rfl
def tcV (T : Int → Int) (b : Int) : Int := if dnR T b.toNat = b then T (dnR T b.toNat) else T (dnR T b.toNat) + ((T (upR T (255 - b).toNat b) - T (dnR T b.toNat)) * (b - dnR T b.toNat)).tdiv (upR T (255 - b).toNat b - dnR T b.toNat)

theorem row_b {CN CG CS : Int → Int} {c : Int} (h : clIn CN CG CS c) : 1 ≤ CN c / CG c ∧ CN c / CG c ≤ 288 := by
  obtain ⟨h1, h2, -, h4⟩ := h
  have h5 : 0 ≤ CN c / CG c := Int.ediv_nonneg (by omega) (by omega)
  constructor
  · apply Int.not_lt.mp; intro q
    rw [show CN c / CG c = 0 by omega, Int.mul_zero] at h4; omega
  · have := mul_b (a := CG c - 1) (b := CN c / CG c) (A := CG c - 1) (B := CN c / CG c) (by omega) (by omega)
    rw [Int.sub_mul, Int.one_mul] at this; omega

set_option maxHeartbeats 4000000 in
set_option maxRecDepth 100000 in
theorem c_X5_lenderOf (l : Launch) (G : zG) (md ma mb mc mt m1 m2 m3 m4 m5 m6 m7 : Nat) (th w h cnt most rch tl nc : Int) (M Y C T CA CB CN CG CS Z K : Int → Int) (x y : Int) (hm : mdOK w h cnt most rch tl nc M Y C T CN CG CS K) (hxx : 0 ≤ x ∧ x < w) (hyy : 0 ≤ y ∧ y < h) : zRd l yX5_lenderOf cX5_lenderOf 12 (some .int) { frames := 4, cells := 0, slots := 0, locals := 97 } G [.ref md, .int (zI (x)), .int (zI (y))] (mdL G md ma mb mc mt m1 m2 m3 m4 m5 m6 m7 th w h cnt most rch tl nc M Y C T CA CB CN CG CS Z K) (lendV w h rch x y (cdB M (PPf Y w (w * h)) (w * h) cnt w (x + w * y))) := by
  refine Met.ofW (cc := cX5_lenderOf) (maxL := 12) (ret := (some .int)) (by decide) rfl ?_
  intro p e s m args below meth c s₁ B hml hv
  obtain ⟨rfl, hP, hK⟩ := hv
  have hx := B.exec
  have hb := B.bytes
  have hr := B.returns
  have hT : ∀ w ∈ TB, w.before _ s = true := fun w h => atoms_spec (ws := Cond.code yX5_lenderOf cX5_lenderOf 12 (some .int) :: TB) B.pre w (List.mem_cons_of_mem _ h)
  have hown : s.vm.findClass RX5 = some m.cls := findClass_of_methodNamed B.named
  have hlocks := B.notSynchronized
  have hl := lv_entry ([.ref md, .int (zI (x)), .int (zI (y))]) (n := 12) (Nat.le_of_ble_eq_true rfl)
  rw [lg_entry_eq]
  generalize (lg_sl ([.ref md, .int (zI (x)), .int (zI (y))]) ++ List.replicate (12 - (lg_sl ([.ref md, .int (zI (x)), .int (zI (y))])).length) Slot.unset).toArray = ls at hl ⊢
  have hl : lv_has ls 12 [(0, .ref md), (1, .int (zI (x))), (2, .int (zI (y)))] := hl
  obtain ⟨hw, hh, hcnt, hmost, hrch, hM, hY, hC, hTb, hT0, hT5, htl, hnc, hcl, hKb⟩ := id hm
  have hpt := md_pts hm
  have hPb : ∀ j, 0 ≤ PPf Y w (w * h) j ∧ PPf Y w (w * h) j ≤ 255 := fun j => hY _
  have hpq := pt_b hxx hyy
  have hlt := lightV_b hM hPb (w * h) cnt
  refine z_iconst hx hb dX5_lenderOf_0 ?_
  refine lv_istore_n (lv' := [(3, .int (zI ((-1)))), (0, .ref md), (1, .int (zI (x))), (2, .int (zI (y)))]) hx hb dX5_lenderOf_1 rfl hl (by decide) rfl (fun ls hl => ?_)
  refine z_iconst hx hb dX5_lenderOf_2 ?_
  refine lv_istore (lv' := [(4, .int (zI (0))), (3, .int (zI ((-1)))), (0, .ref md), (1, .int (zI (x))), (2, .int (zI (y)))]) hx hb dX5_lenderOf_3 hl (by decide) rfl (fun ls hl => ?_)
  refine lv_aload_n hx hb dX5_lenderOf_5 rfl (lv_at hl 2 rfl) ?_
  refine lv_iload_n hx hb dX5_lenderOf_6 rfl (lv_at hl 3 rfl) ?_
  refine lv_iload_n hx hb dX5_lenderOf_7 rfl (lv_at hl 4 rfl) ?_
  refine z_callV (q0 := 0) (G := G) (As := [.int (zI (x)), .int (zI (y))]) (rest := []) hx hb hml hown hT hK (c_X5_lightness l G md ma mb mc mt m1 m2 m3 m4 m5 m6 m7 th w h cnt most rch tl nc M Y C T CA CB CN CG CS Z K (x) (y) hm (by omega) (by omega)) kc_X5_99 ⟨Nat.le_of_ble_eq_true rfl, Nat.le_of_ble_eq_true rfl⟩ ⟨rfl, rfl⟩ ⟨Nat.zero_le _, Nat.zero_le _⟩ hP rfl rfl rfl rfl hl.1 rfl (Nat.le_of_ble_eq_true rfl) dX5_lenderOf_8 ?_
  have hl1 := hlt (x + w * y)
  refine lv_istore (lv' := [(5, .int (zI ((lightV M (PPf Y w (w * h)) (w * h) cnt (x + w * y))))), (4, .int (zI (0))), (3, .int (zI ((-1)))), (0, .ref md), (1, .int (zI (x))), (2, .int (zI (y)))]) hx hb dX5_lenderOf_11 hl (by decide) rfl (fun ls hl => ?_)
  refine z_iconst hx hb dX5_lenderOf_13 ?_
  refine lv_istore (lv' := [(6, .int (zI (0))), (5, .int (zI ((lightV M (PPf Y w (w * h)) (w * h) cnt (x + w * y))))), (4, .int (zI (0))), (3, .int (zI ((-1)))), (0, .ref md), (1, .int (zI (x))), (2, .int (zI (y)))]) hx hb dX5_lenderOf_14 hl (by decide) rfl (fun ls hl => ?_)
  refine z_loop (σ := Int × Int × Int × Array Slot) (fun zq => F0 m 16 (zq.2.2.2) []) (fun zq => ((0 ≤ zq.1 ∧ zq.1 ≤ h) ∧ ((-1 ≤ zq.2.1 ∧ zq.2.1 ≤ 100000) ∧ (0 ≤ zq.2.2.1 ∧ zq.2.2.1 ≤ 100000)) ∧ bestS w h rch x y (cdB M (PPf Y w (w * h)) (w * h) cnt w (x + w * y)) (fun c r => r < zq.1) zq.2.1 zq.2.2.1) ∧ lv_has (zq.2.2.2) 12 [(0, .ref md), (1, .int (zI (x))), (2, .int (zI (y))), (5, .int (zI ((lightV M (PPf Y w (w * h)) (w * h) cnt (x + w * y))))), (3, .int (zI (zq.2.1))), (4, .int (zI (zq.2.2.1))), (6, .int (zI (zq.1)))]) (fun zq => (h - zq.1).toNat) ?_ (0, (-1), 0, ls) ⟨⟨by dsimp only; omega, by dsimp only; omega, best_0 (fun c r hw9 hs9 => by unfold inWin at hw9; omega)⟩, lv_sub hl [4, 5, 6, 1, 3, 2, 0] rfl⟩
  intro zq hq ih
  obtain ⟨v, b0, f0, ls⟩ := zq
  obtain ⟨⟨hI, hRn, hBs⟩, hl⟩ := hq
  try dsimp only at hI hRn hBs hl ih ⊢
  have ih16 := ih
  refine lv_iload hx hb dX5_lenderOf_16 (lv_at hl 6 rfl) ?_
  refine lv_aload_n hx hb dX5_lenderOf_18 rfl (lv_at hl 0 rfl) ?_
  refine gf_X5_59 hx hb hT hown hK hP 0 rfl rfl dX5_lenderOf_19 ?_
  refine z_icmp_ge (tgt := 182) hx hb dX5_lenderOf_22 (by decide) (by omega) (by omega) (fun h22 => ?_) (fun h22 => ?_)
  · skip
    refine lv_iload_n hx hb dX5_lenderOf_182 rfl (lv_at hl 4 rfl) ?_
    exact z_iret hx hb hr hlocks (lend_eq (best_congr (fun c r hw9 => by unfold inWin at hw9; constructor <;> intro h9 <;> first | trivial | omega) hBs)) dX5_lenderOf_183
  · skip
    refine z_iconst hx hb dX5_lenderOf_25 ?_
    refine lv_istore (lv' := [(7, .int (zI (0))), (0, .ref md), (1, .int (zI (x))), (2, .int (zI (y))), (5, .int (zI ((lightV M (PPf Y w (w * h)) (w * h) cnt (x + w * y))))), (3, .int (zI (b0))), (4, .int (zI (f0))), (6, .int (zI (v)))]) hx hb dX5_lenderOf_26 hl (by decide) rfl (fun ls hl => ?_)
    refine z_loop (σ := Int × Int × Int × Array Slot) (fun zq => F0 m 28 (zq.2.2.2) []) (fun zq => ((0 ≤ zq.1 ∧ zq.1 ≤ w) ∧ ((-1 ≤ zq.2.1 ∧ zq.2.1 ≤ 100000) ∧ (0 ≤ zq.2.2.1 ∧ zq.2.2.1 ≤ 100000)) ∧ bestS w h rch x y (cdB M (PPf Y w (w * h)) (w * h) cnt w (x + w * y)) (fun c r => r < v ∨ (r = v ∧ c < zq.1)) zq.2.1 zq.2.2.1) ∧ lv_has (zq.2.2.2) 12 [(0, .ref md), (1, .int (zI (x))), (2, .int (zI (y))), (5, .int (zI ((lightV M (PPf Y w (w * h)) (w * h) cnt (x + w * y))))), (3, .int (zI (zq.2.1))), (4, .int (zI (zq.2.2.1))), (6, .int (zI (v))), (7, .int (zI (zq.1)))]) (fun zq => (w - zq.1).toNat) ?_ (0, b0, f0, ls) ⟨⟨by dsimp only; omega, hRn, best_congr (fun c r hw9 => by unfold inWin at hw9; constructor <;> intro h9 <;> omega) hBs⟩, lv_sub hl [1, 2, 3, 4, 5, 6, 7, 0] rfl⟩
    intro zq hq ih
    obtain ⟨u, b1, f1, ls⟩ := zq
    obtain ⟨⟨hI1, hRn, hBs⟩, hl⟩ := hq
    try dsimp only at hI1 hRn hBs hl ih ⊢
    have ih28 := ih
    refine lv_iload hx hb dX5_lenderOf_28 (lv_at hl 7 rfl) ?_
    refine lv_aload_n hx hb dX5_lenderOf_30 rfl (lv_at hl 0 rfl) ?_
    refine gf_X5_56 hx hb hT hown hK hP 0 rfl rfl dX5_lenderOf_31 ?_
    refine z_icmp_ge (tgt := 176) hx hb dX5_lenderOf_34 (by decide) (by omega) (by omega) (fun h34 => ?_) (fun h34 => ?_)
    · skip
      refine lv_iinc (v := zI (v + (1))) (lv' := [(6, .int (zI (v + (1)))), (0, .ref md), (1, .int (zI (x))), (2, .int (zI (y))), (5, .int (zI ((lightV M (PPf Y w (w * h)) (w * h) cnt (x + w * y))))), (3, .int (zI (b1))), (4, .int (zI (f1))), (7, .int (zI (u)))]) hx hb dX5_lenderOf_176 hl (k := 6) rfl (zI_add _ _) (by decide) rfl (fun ls hl => ?_)
      refine z_goto (tgt := 16) hx hb dX5_lenderOf_179 (by decide) ?_
      exact ih16 (v + (1), b1, f1, ls) ⟨⟨by dsimp only; omega, hRn, best_congr (fun c r hw9 => by unfold inWin at hw9; constructor <;> intro h9 <;> omega) hBs⟩, lv_sub hl [1, 2, 3, 4, 5, 6, 0] rfl⟩ (by omega)
    · skip
      have hpc := pt_b (w := w) (h := h) (x := u) (y := v) (by omega) (by omega)
      have hdb := dsq_b (x := x) (y := y) (c := u) (r := v) (by omega) (by omega)
      obtain ⟨ds, hds⟩ : ∃ z : Int, z = dsq x y u v := ⟨_, rfl⟩
      have hl2 := hlt (u + w * v)
      refine lv_iload hx hb dX5_lenderOf_37 (lv_at hl 7 rfl) ?_
      refine lv_iload_n hx hb dX5_lenderOf_39 rfl (lv_at hl 1 rfl) ?_
      refine z_isub hx hb dX5_lenderOf_40 ?_
      refine lv_istore (lv' := [(8, .int (zI ((u - x)))), (0, .ref md), (1, .int (zI (x))), (2, .int (zI (y))), (5, .int (zI ((lightV M (PPf Y w (w * h)) (w * h) cnt (x + w * y))))), (3, .int (zI (b1))), (4, .int (zI (f1))), (6, .int (zI (v))), (7, .int (zI (u)))]) hx hb dX5_lenderOf_41 hl (by decide) rfl (fun ls hl => ?_)
      refine lv_iload hx hb dX5_lenderOf_43 (lv_at hl 7 rfl) ?_
      refine lv_iload_n hx hb dX5_lenderOf_45 rfl (lv_at hl 3 rfl) ?_
      refine z_isub hx hb dX5_lenderOf_46 ?_
      refine lv_istore (lv' := [(9, .int (zI ((v - y)))), (8, .int (zI ((u - x)))), (0, .ref md), (1, .int (zI (x))), (2, .int (zI (y))), (5, .int (zI ((lightV M (PPf Y w (w * h)) (w * h) cnt (x + w * y))))), (3, .int (zI (b1))), (4, .int (zI (f1))), (6, .int (zI (v))), (7, .int (zI (u)))]) hx hb dX5_lenderOf_47 hl (by decide) rfl (fun ls hl => ?_)
      refine lv_iload hx hb dX5_lenderOf_49 (lv_at hl 1 rfl) ?_
      refine lv_iload hx hb dX5_lenderOf_51 (lv_at hl 1 rfl) ?_
      refine z_imul hx hb dX5_lenderOf_53 ?_
      refine lv_iload hx hb dX5_lenderOf_54 (lv_at hl 0 rfl) ?_
      refine lv_iload hx hb dX5_lenderOf_56 (lv_at hl 0 rfl) ?_
      refine z_imul hx hb dX5_lenderOf_58 ?_
      refine z_iadd hx hb dX5_lenderOf_59 ?_
      refine z_top (ds) (hds.symm) ?_
      refine lv_istore (lv' := [(10, .int (zI (ds))), (9, .int (zI ((v - y)))), (8, .int (zI ((u - x)))), (0, .ref md), (1, .int (zI (x))), (2, .int (zI (y))), (5, .int (zI ((lightV M (PPf Y w (w * h)) (w * h) cnt (x + w * y))))), (3, .int (zI (b1))), (4, .int (zI (f1))), (6, .int (zI (v))), (7, .int (zI (u)))]) hx hb dX5_lenderOf_60 hl (by decide) rfl (fun ls hl => ?_)
      refine z_cut (σ := Array Slot) (fun zq => F0 m 110 (zq) [.int (zI (bI (decide (((u - x) ≤ rch ∧ -(u - x) ≤ rch) ∧ ((v - y) ≤ rch ∧ -(v - y) ≤ rch) ∧ 0 < ds))))]) (fun zq => (True) ∧ lv_has (zq) 12 [(10, .int (zI (ds))), (9, .int (zI ((v - y)))), (8, .int (zI ((u - x)))), (0, .ref md), (1, .int (zI (x))), (2, .int (zI (y))), (5, .int (zI ((lightV M (PPf Y w (w * h)) (w * h) cnt (x + w * y))))), (3, .int (zI (b1))), (4, .int (zI (f1))), (6, .int (zI (v))), (7, .int (zI (u)))]) ?_ ?_
      · intro ls hq
        obtain ⟨hJ, hl⟩ := hq
        try dsimp only at hJ hl ⊢
        refine lv_istore (lv' := [(11, .int (zI (bI (decide (((u - x) ≤ rch ∧ -(u - x) ≤ rch) ∧ ((v - y) ≤ rch ∧ -(v - y) ≤ rch) ∧ 0 < ds))))), (10, .int (zI (ds))), (9, .int (zI ((v - y)))), (8, .int (zI ((u - x)))), (0, .ref md), (1, .int (zI (x))), (2, .int (zI (y))), (5, .int (zI ((lightV M (PPf Y w (w * h)) (w * h) cnt (x + w * y))))), (3, .int (zI (b1))), (4, .int (zI (f1))), (6, .int (zI (v))), (7, .int (zI (u)))]) hx hb dX5_lenderOf_110 hl (by decide) rfl (fun ls hl => ?_)
        refine lv_iload hx hb dX5_lenderOf_112 (lv_at hl 0 rfl) ?_
        have hn8 := bI_01 (decide (((u - x) ≤ rch ∧ -(u - x) ≤ rch) ∧ ((v - y) ≤ rch ∧ -(v - y) ≤ rch) ∧ 0 < ds))
        refine z_if_eq (tgt := 170) hx hb dX5_lenderOf_114 (by decide) (by omega) (fun h114 => ?_) (fun h114 => ?_)
        · skip
          refine lv_iinc (v := zI (u + (1))) (lv' := [(7, .int (zI (u + (1)))), (11, .int (zI (bI (decide (((u - x) ≤ rch ∧ -(u - x) ≤ rch) ∧ ((v - y) ≤ rch ∧ -(v - y) ≤ rch) ∧ 0 < ds))))), (10, .int (zI (ds))), (9, .int (zI ((v - y)))), (8, .int (zI ((u - x)))), (0, .ref md), (1, .int (zI (x))), (2, .int (zI (y))), (5, .int (zI ((lightV M (PPf Y w (w * h)) (w * h) cnt (x + w * y))))), (3, .int (zI (b1))), (4, .int (zI (f1))), (6, .int (zI (v)))]) hx hb dX5_lenderOf_170 hl (k := 11) rfl (zI_add _ _) (by decide) rfl (fun ls hl => ?_)
          refine z_goto (tgt := 28) hx hb dX5_lenderOf_173 (by decide) ?_
          exact ih28 (u + (1), b1, f1, ls) ⟨⟨by dsimp only; omega, hRn, best_skip hBs (by first | exact sk_near h114 hds | exact sk_far2 h119 h126 hds | exact sk_unl h139 | exact sk_lit h152)⟩, lv_sub hl [5, 6, 7, 8, 9, 10, 11, 0] rfl⟩ (by omega)
        · skip
          refine z_cut (σ := Array Slot) (fun zq => F0 m 129 (zq) []) (fun zq => (b1 = -1 ∨ ds < f1) ∧ lv_has (zq) 12 [(11, .int (zI (bI (decide (((u - x) ≤ rch ∧ -(u - x) ≤ rch) ∧ ((v - y) ≤ rch ∧ -(v - y) ≤ rch) ∧ 0 < ds))))), (10, .int (zI (ds))), (9, .int (zI ((v - y)))), (8, .int (zI ((u - x)))), (0, .ref md), (1, .int (zI (x))), (2, .int (zI (y))), (5, .int (zI ((lightV M (PPf Y w (w * h)) (w * h) cnt (x + w * y))))), (3, .int (zI (b1))), (4, .int (zI (f1))), (6, .int (zI (v))), (7, .int (zI (u)))]) ?_ ?_
          · intro ls hq
            obtain ⟨hJ129, hl⟩ := hq
            try dsimp only at hJ129 hl ⊢
            refine lv_aload_n hx hb dX5_lenderOf_129 rfl (lv_at hl 4 rfl) ?_
            refine lv_iload_n hx hb dX5_lenderOf_130 rfl (lv_at hl 5 rfl) ?_
            refine lv_iload_n hx hb dX5_lenderOf_131 rfl (lv_at hl 6 rfl) ?_
            refine lv_iload hx hb dX5_lenderOf_132 (lv_at hl 11 rfl) ?_
            refine lv_iload hx hb dX5_lenderOf_134 (lv_at hl 10 rfl) ?_
            refine z_callV (q0 := 0) (G := G) (As := [.int (zI (x)), .int (zI (y)), .int (zI (u)), .int (zI (v))]) (rest := []) hx hb hml hown hT hK (c_X5_areUnlike l G md ma mb mc mt m1 m2 m3 m4 m5 m6 m7 th w h cnt most rch tl nc M Y C T CA CB CN CG CS Z K (x) (y) (u) (v) hm (by omega) (by omega) (by omega) (by omega)) kc_X5_102 ⟨Nat.le_of_ble_eq_true rfl, Nat.le_of_ble_eq_true rfl⟩ ⟨rfl, rfl⟩ ⟨Nat.zero_le _, Nat.zero_le _⟩ hP rfl rfl rfl rfl hl.1 rfl (Nat.le_of_ble_eq_true rfl) dX5_lenderOf_136 ?_
            have hu := bI_01 (unlB (PPf Y w (w * h)) (w * h) cnt (x + w * y) (u + w * v))
            refine z_if_eq (tgt := 170) hx hb dX5_lenderOf_139 (by decide) (by omega) (fun h139 => ?_) (fun h139 => ?_)
            · skip
              refine lv_iinc (v := zI (u + (1))) (lv' := [(7, .int (zI (u + (1)))), (11, .int (zI (bI (decide (((u - x) ≤ rch ∧ -(u - x) ≤ rch) ∧ ((v - y) ≤ rch ∧ -(v - y) ≤ rch) ∧ 0 < ds))))), (10, .int (zI (ds))), (9, .int (zI ((v - y)))), (8, .int (zI ((u - x)))), (0, .ref md), (1, .int (zI (x))), (2, .int (zI (y))), (5, .int (zI ((lightV M (PPf Y w (w * h)) (w * h) cnt (x + w * y))))), (3, .int (zI (b1))), (4, .int (zI (f1))), (6, .int (zI (v)))]) hx hb dX5_lenderOf_170 hl (k := 11) rfl (zI_add _ _) (by decide) rfl (fun ls hl => ?_)
              refine z_goto (tgt := 28) hx hb dX5_lenderOf_173 (by decide) ?_
              exact ih28 (u + (1), b1, f1, ls) ⟨⟨by dsimp only; omega, hRn, best_skip hBs (by first | exact sk_near h114 hds | exact sk_far2 h119 h126 hds | exact sk_unl h139 | exact sk_lit h152)⟩, lv_sub hl [5, 6, 7, 8, 9, 10, 11, 0] rfl⟩ (by omega)
            · skip
              refine lv_aload_n hx hb dX5_lenderOf_142 rfl (lv_at hl 4 rfl) ?_
              refine lv_iload hx hb dX5_lenderOf_143 (lv_at hl 11 rfl) ?_
              refine lv_iload hx hb dX5_lenderOf_145 (lv_at hl 10 rfl) ?_
              refine z_callV (q0 := 0) (G := G) (As := [.int (zI (u)), .int (zI (v))]) (rest := []) hx hb hml hown hT hK (c_X5_lightness l G md ma mb mc mt m1 m2 m3 m4 m5 m6 m7 th w h cnt most rch tl nc M Y C T CA CB CN CG CS Z K (u) (v) hm (by omega) (by omega)) kc_X5_99 ⟨Nat.le_of_ble_eq_true rfl, Nat.le_of_ble_eq_true rfl⟩ ⟨rfl, rfl⟩ ⟨Nat.zero_le _, Nat.zero_le _⟩ hP rfl rfl rfl rfl hl.1 rfl (Nat.le_of_ble_eq_true rfl) dX5_lenderOf_147 ?_
              refine lv_iload hx hb dX5_lenderOf_150 (lv_at hl 7 rfl) ?_
              refine z_icmp_le (tgt := 170) hx hb dX5_lenderOf_152 (by decide) (by omega) (by omega) (fun h152 => ?_) (fun h152 => ?_)
              · skip
                refine lv_iinc (v := zI (u + (1))) (lv' := [(7, .int (zI (u + (1)))), (11, .int (zI (bI (decide (((u - x) ≤ rch ∧ -(u - x) ≤ rch) ∧ ((v - y) ≤ rch ∧ -(v - y) ≤ rch) ∧ 0 < ds))))), (10, .int (zI (ds))), (9, .int (zI ((v - y)))), (8, .int (zI ((u - x)))), (0, .ref md), (1, .int (zI (x))), (2, .int (zI (y))), (5, .int (zI ((lightV M (PPf Y w (w * h)) (w * h) cnt (x + w * y))))), (3, .int (zI (b1))), (4, .int (zI (f1))), (6, .int (zI (v)))]) hx hb dX5_lenderOf_170 hl (k := 11) rfl (zI_add _ _) (by decide) rfl (fun ls hl => ?_)
                refine z_goto (tgt := 28) hx hb dX5_lenderOf_173 (by decide) ?_
                exact ih28 (u + (1), b1, f1, ls) ⟨⟨by dsimp only; omega, hRn, best_skip hBs (by first | exact sk_near h114 hds | exact sk_far2 h119 h126 hds | exact sk_unl h139 | exact sk_lit h152)⟩, lv_sub hl [5, 6, 7, 8, 9, 10, 11, 0] rfl⟩ (by omega)
              · skip
                refine lv_iload hx hb dX5_lenderOf_155 (lv_at hl 11 rfl) ?_
                refine lv_aload_n hx hb dX5_lenderOf_157 rfl (lv_at hl 4 rfl) ?_
                refine gf_X5_56 hx hb hT hown hK hP 0 rfl rfl dX5_lenderOf_158 ?_
                refine lv_iload hx hb dX5_lenderOf_161 (lv_at hl 10 rfl) ?_
                refine z_imul hx hb dX5_lenderOf_163 ?_
                refine z_iadd hx hb dX5_lenderOf_164 ?_
                refine lv_istore_n (lv' := [(3, .int (zI ((u + (w * v))))), (11, .int (zI (bI (decide (((u - x) ≤ rch ∧ -(u - x) ≤ rch) ∧ ((v - y) ≤ rch ∧ -(v - y) ≤ rch) ∧ 0 < ds))))), (10, .int (zI (ds))), (9, .int (zI ((v - y)))), (8, .int (zI ((u - x)))), (0, .ref md), (1, .int (zI (x))), (2, .int (zI (y))), (5, .int (zI ((lightV M (PPf Y w (w * h)) (w * h) cnt (x + w * y))))), (4, .int (zI (f1))), (6, .int (zI (v))), (7, .int (zI (u)))]) hx hb dX5_lenderOf_165 rfl hl (by decide) rfl (fun ls hl => ?_)
                refine lv_iload hx hb dX5_lenderOf_166 (lv_at hl 2 rfl) ?_
                refine lv_istore (lv' := [(4, .int (zI (ds))), (3, .int (zI ((u + (w * v))))), (11, .int (zI (bI (decide (((u - x) ≤ rch ∧ -(u - x) ≤ rch) ∧ ((v - y) ≤ rch ∧ -(v - y) ≤ rch) ∧ 0 < ds))))), (10, .int (zI (ds))), (9, .int (zI ((v - y)))), (8, .int (zI ((u - x)))), (0, .ref md), (1, .int (zI (x))), (2, .int (zI (y))), (5, .int (zI ((lightV M (PPf Y w (w * h)) (w * h) cnt (x + w * y))))), (6, .int (zI (v))), (7, .int (zI (u)))]) hx hb dX5_lenderOf_168 hl (by decide) rfl (fun ls hl => ?_)
                refine lv_iinc (v := zI (u + (1))) (lv' := [(7, .int (zI (u + (1)))), (4, .int (zI (ds))), (3, .int (zI ((u + (w * v))))), (11, .int (zI (bI (decide (((u - x) ≤ rch ∧ -(u - x) ≤ rch) ∧ ((v - y) ≤ rch ∧ -(v - y) ≤ rch) ∧ 0 < ds))))), (10, .int (zI (ds))), (9, .int (zI ((v - y)))), (8, .int (zI ((u - x)))), (0, .ref md), (1, .int (zI (x))), (2, .int (zI (y))), (5, .int (zI ((lightV M (PPf Y w (w * h)) (w * h) cnt (x + w * y))))), (6, .int (zI (v)))]) hx hb dX5_lenderOf_170 hl (k := 11) rfl (zI_add _ _) (by decide) rfl (fun ls hl => ?_)
                refine z_goto (tgt := 28) hx hb dX5_lenderOf_173 (by decide) ?_
                exact ih28 (u + (1), (u + (w * v)), ds, ls) ⟨⟨by dsimp only; omega, by dsimp only; omega, hds ▸ best_take hBs (by have hn9 := of_decide_eq_true (bI_t.mp h114); unfold inWin; omega) (by unfold cdB; rw [bI_t.mp h139, decide_eq_true (by omega)]; rfl) (hds ▸ hJ129)⟩, lv_sub hl [7, 8, 9, 10, 2, 1, 11, 0] rfl⟩ (by omega)
          intro J129
          refine lv_iload_n hx hb dX5_lenderOf_117 rfl (lv_at hl 8 rfl) ?_
          refine z_iconst hx hb dX5_lenderOf_118 ?_
          refine z_icmp_eq (tgt := 129) hx hb dX5_lenderOf_119 (by decide) (by omega) (by omega) (fun h119 => ?_) (fun h119 => ?_)
          · skip
            exact J129 (ls) ⟨by omega, lv_sub hl [0, 1, 2, 3, 4, 5, 6, 7, 8, 9, 10, 11] rfl⟩
          · skip
            refine lv_iload hx hb dX5_lenderOf_122 (lv_at hl 1 rfl) ?_
            refine lv_iload hx hb dX5_lenderOf_124 (lv_at hl 9 rfl) ?_
            refine z_icmp_ge (tgt := 170) hx hb dX5_lenderOf_126 (by decide) (by omega) (by omega) (fun h126 => ?_) (fun h126 => ?_)
            · skip
              refine lv_iinc (v := zI (u + (1))) (lv' := [(7, .int (zI (u + (1)))), (11, .int (zI (bI (decide (((u - x) ≤ rch ∧ -(u - x) ≤ rch) ∧ ((v - y) ≤ rch ∧ -(v - y) ≤ rch) ∧ 0 < ds))))), (10, .int (zI (ds))), (9, .int (zI ((v - y)))), (8, .int (zI ((u - x)))), (0, .ref md), (1, .int (zI (x))), (2, .int (zI (y))), (5, .int (zI ((lightV M (PPf Y w (w * h)) (w * h) cnt (x + w * y))))), (3, .int (zI (b1))), (4, .int (zI (f1))), (6, .int (zI (v)))]) hx hb dX5_lenderOf_170 hl (k := 11) rfl (zI_add _ _) (by decide) rfl (fun ls hl => ?_)
              refine z_goto (tgt := 28) hx hb dX5_lenderOf_173 (by decide) ?_
              exact ih28 (u + (1), b1, f1, ls) ⟨⟨by dsimp only; omega, hRn, best_skip hBs (by first | exact sk_near h114 hds | exact sk_far2 h119 h126 hds | exact sk_unl h139 | exact sk_lit h152)⟩, lv_sub hl [5, 6, 7, 8, 9, 10, 11, 0] rfl⟩ (by omega)
            · skip
              exact J129 (ls) ⟨by omega, lv_sub hl [0, 1, 2, 3, 4, 5, 6, 7, 8, 9, 10, 11] rfl⟩
      intro J110
      refine lv_iload hx hb dX5_lenderOf_62 (lv_at hl 2 rfl) ?_
      refine lv_aload_n hx hb dX5_lenderOf_64 rfl (lv_at hl 3 rfl) ?_
      refine gf_X5_26 hx hb hT hown hK hP 0 rfl rfl dX5_lenderOf_65 ?_
      refine z_icmp_gt (tgt := 109) hx hb dX5_lenderOf_68 (by decide) (by omega) (by omega) (fun h68 => ?_) (fun h68 => ?_)
      · skip
        refine z_iconst hx hb dX5_lenderOf_109 ?_
        refine z_top (bI (decide (((u - x) ≤ rch ∧ -(u - x) ≤ rch) ∧ ((v - y) ≤ rch ∧ -(v - y) ≤ rch) ∧ 0 < ds))) (bI_0 (by omega)) ?_
        exact J110 (ls) ⟨trivial, lv_sub hl [0, 1, 2, 3, 4, 5, 6, 7, 8, 9, 10] rfl⟩
      · skip
        refine lv_iload hx hb dX5_lenderOf_71 (lv_at hl 2 rfl) ?_
        refine z_ineg hx hb dX5_lenderOf_73 ?_
        refine lv_aload_n hx hb dX5_lenderOf_74 rfl (lv_at hl 3 rfl) ?_
        refine gf_X5_26 hx hb hT hown hK hP 0 rfl rfl dX5_lenderOf_75 ?_
        refine z_icmp_gt (tgt := 109) hx hb dX5_lenderOf_78 (by decide) (by omega) (by omega) (fun h78 => ?_) (fun h78 => ?_)
        · skip
          refine z_iconst hx hb dX5_lenderOf_109 ?_
          refine z_top (bI (decide (((u - x) ≤ rch ∧ -(u - x) ≤ rch) ∧ ((v - y) ≤ rch ∧ -(v - y) ≤ rch) ∧ 0 < ds))) (bI_0 (by omega)) ?_
          exact J110 (ls) ⟨trivial, lv_sub hl [0, 1, 2, 3, 4, 5, 6, 7, 8, 9, 10] rfl⟩
        · skip
          refine lv_iload hx hb dX5_lenderOf_81 (lv_at hl 1 rfl) ?_
          refine lv_aload_n hx hb dX5_lenderOf_83 rfl (lv_at hl 3 rfl) ?_
          refine gf_X5_26 hx hb hT hown hK hP 0 rfl rfl dX5_lenderOf_84 ?_
          refine z_icmp_gt (tgt := 109) hx hb dX5_lenderOf_87 (by decide) (by omega) (by omega) (fun h87 => ?_) (fun h87 => ?_)
          · skip
            refine z_iconst hx hb dX5_lenderOf_109 ?_
            refine z_top (bI (decide (((u - x) ≤ rch ∧ -(u - x) ≤ rch) ∧ ((v - y) ≤ rch ∧ -(v - y) ≤ rch) ∧ 0 < ds))) (bI_0 (by omega)) ?_
            exact J110 (ls) ⟨trivial, lv_sub hl [0, 1, 2, 3, 4, 5, 6, 7, 8, 9, 10] rfl⟩
          · skip
            refine lv_iload hx hb dX5_lenderOf_90 (lv_at hl 1 rfl) ?_
            refine z_ineg hx hb dX5_lenderOf_92 ?_
            refine lv_aload_n hx hb dX5_lenderOf_93 rfl (lv_at hl 3 rfl) ?_
            refine gf_X5_26 hx hb hT hown hK hP 0 rfl rfl dX5_lenderOf_94 ?_
            refine z_icmp_gt (tgt := 109) hx hb dX5_lenderOf_97 (by decide) (by omega) (by omega) (fun h97 => ?_) (fun h97 => ?_)
            · skip
              refine z_iconst hx hb dX5_lenderOf_109 ?_
              refine z_top (bI (decide (((u - x) ≤ rch ∧ -(u - x) ≤ rch) ∧ ((v - y) ≤ rch ∧ -(v - y) ≤ rch) ∧ 0 < ds))) (bI_0 (by omega)) ?_
              exact J110 (ls) ⟨trivial, lv_sub hl [0, 1, 2, 3, 4, 5, 6, 7, 8, 9, 10] rfl⟩
            · skip
              refine lv_iload hx hb dX5_lenderOf_100 (lv_at hl 0 rfl) ?_
              refine z_if_le (tgt := 109) hx hb dX5_lenderOf_102 (by decide) (by omega) (fun h102 => ?_) (fun h102 => ?_)
              · skip
                refine z_iconst hx hb dX5_lenderOf_109 ?_
                refine z_top (bI (decide (((u - x) ≤ rch ∧ -(u - x) ≤ rch) ∧ ((v - y) ≤ rch ∧ -(v - y) ≤ rch) ∧ 0 < ds))) (bI_0 (by omega)) ?_
                exact J110 (ls) ⟨trivial, lv_sub hl [0, 1, 2, 3, 4, 5, 6, 7, 8, 9, 10] rfl⟩
              · skip
                refine z_iconst hx hb dX5_lenderOf_105 ?_
                refine z_goto (tgt := 110) hx hb dX5_lenderOf_106 (by decide) ?_
                refine z_top (bI (decide (((u - x) ≤ rch ∧ -(u - x) ≤ rch) ∧ ((v - y) ≤ rch ∧ -(v - y) ≤ rch) ∧ 0 < ds))) (bI_1 (by omega)) ?_
                exact J110 (ls) ⟨trivial, lv_sub hl [0, 1, 2, 3, 4, 5, 6, 7, 8, 9, 10] rfl⟩

set_option maxHeartbeats 4000000 in
set_option maxRecDepth 100000 in
theorem c_X5_curve (l : Launch) (G : zG) (md ma mb mc mt m1 m2 m3 m4 m5 m6 m7 : Nat) (th w h cnt most rch tl nc : Int) (M Y C T CA CB CN CG CS Z K : Int → Int) (b : Int) (hm : mdOK w h cnt most rch tl nc M Y C T CN CG CS K) (hb5 : 0 ≤ b ∧ b ≤ 255) : zRd l yX5_curve cX5_curve 4 (some .int) { frames := 0, cells := 0, slots := 0, locals := 0 } G [.ref md, .int (zI (b))] (mdL G md ma mb mc mt m1 m2 m3 m4 m5 m6 m7 th w h cnt most rch tl nc M Y C T CA CB CN CG CS Z K) (tcV T b) := by
  refine Met.ofW (cc := cX5_curve) (maxL := 4) (ret := (some .int)) (by decide) rfl ?_
  intro p e s m args below meth c s₁ B hml hv
  obtain ⟨rfl, hP, hK⟩ := hv
  have hx := B.exec
  have hb := B.bytes
  have hr := B.returns
  have hT : ∀ w ∈ TB, w.before _ s = true := fun w h => atoms_spec (ws := Cond.code yX5_curve cX5_curve 4 (some .int) :: TB) B.pre w (List.mem_cons_of_mem _ h)
  have hown : s.vm.findClass RX5 = some m.cls := findClass_of_methodNamed B.named
  have hlocks := B.notSynchronized
  have hl := lv_entry ([.ref md, .int (zI (b))]) (n := 4) (Nat.le_of_ble_eq_true rfl)
  rw [lg_entry_eq]
  generalize (lg_sl ([.ref md, .int (zI (b))]) ++ List.replicate (4 - (lg_sl ([.ref md, .int (zI (b))])).length) Slot.unset).toArray = ls at hl ⊢
  have hl : lv_has ls 4 [(0, .ref md), (1, .int (zI (b)))] := hl
  obtain ⟨hw, hh, hcnt, hmost, hrch, hM, hY, hC, hTb, hT0, hT5, htl, hnc, hcl, hKb⟩ := id hm
  have hpt := md_pts hm
  have hPb : ∀ j, 0 ≤ PPf Y w (w * h) j ∧ PPf Y w (w * h) j ≤ 255 := fun j => hY _
  refine lv_iload_n hx hb dX5_curve_0 rfl (lv_at hl 1 rfl) ?_
  refine lv_istore_n (lv' := [(2, .int (zI (b))), (0, .ref md), (1, .int (zI (b)))]) hx hb dX5_curve_1 rfl hl (by decide) rfl (fun ls hl => ?_)
  refine z_loop (σ := Int × Array Slot) (fun zq => F0 m 2 (zq.2) []) (fun zq => ((0 ≤ zq.1 ∧ zq.1 ≤ b) ∧ dnR T b.toNat = dnR T zq.1.toNat) ∧ lv_has (zq.2) 4 [(0, .ref md), (1, .int (zI (b))), (2, .int (zI (zq.1)))]) (fun zq => zq.1.toNat) ?_ (b, ls) ⟨⟨by dsimp only; omega, rfl⟩, lv_sub hl [1, 2, 0] rfl⟩
  intro zq hq ih
  obtain ⟨v, ls⟩ := zq
  obtain ⟨⟨hI, hI2⟩, hl⟩ := hq
  try dsimp only at hI hI2 hl ih ⊢
  have hv0 : T v = -1 → 0 < v := fun h9 => by rcases Int.lt_or_le 0 v with q | q; exact q; exact absurd (show T 0 = -1 by rw [← h9, show v = 0 by omega]) hT0
  have htv := hTb v
  have ih2 := ih
  refine lv_aload_n hx hb dX5_curve_2 rfl (lv_at hl 0 rfl) ?_
  refine gf_X5_29 hx hb hT hown hK hP 0 rfl rfl dX5_curve_3 ?_
  refine lv_iload_n hx hb dX5_curve_6 rfl (lv_at hl 2 rfl) ?_
  refine z_iald hx hb hK hP 4 rfl (⟨by omega, by omega, by omega⟩) dX5_curve_7 ?_
  refine z_iconst hx hb dX5_curve_8 ?_
  refine z_icmp_ne (tgt := 18) hx hb dX5_curve_9 (by decide) (by omega) (by omega) (fun h9 => ?_) (fun h9 => ?_)
  · skip
    have hdn : dnR T b.toNat = v := by rw [hI2]; by_cases q : v = 0; (rw [q]; rfl); rw [dnR_s T (by omega), if_neg h9]
    refine lv_iload_n hx hb dX5_curve_18 rfl (lv_at hl 2 rfl) ?_
    refine lv_iload_n hx hb dX5_curve_19 rfl (lv_at hl 1 rfl) ?_
    refine z_icmp_ne (tgt := 30) hx hb dX5_curve_20 (by decide) (by omega) (by omega) (fun h20 => ?_) (fun h20 => ?_)
    · skip
      refine lv_iload_n hx hb dX5_curve_30 rfl (lv_at hl 1 rfl) ?_
      refine lv_istore_n (lv' := [(3, .int (zI (b))), (0, .ref md), (1, .int (zI (b))), (2, .int (zI (v)))]) hx hb dX5_curve_31 rfl hl (by decide) rfl (fun ls hl => ?_)
      refine z_loop (σ := Int × Array Slot) (fun zq => F0 m 32 (zq.2) []) (fun zq => ((b ≤ zq.1 ∧ zq.1 ≤ 255) ∧ upR T (255 - b).toNat b = upR T (255 - zq.1).toNat zq.1) ∧ lv_has (zq.2) 4 [(0, .ref md), (1, .int (zI (b))), (2, .int (zI (v))), (3, .int (zI (zq.1)))]) (fun zq => (255 - zq.1).toNat) ?_ (b, ls) ⟨⟨by dsimp only; omega, rfl⟩, lv_sub hl [1, 2, 3, 0] rfl⟩
      intro zq hq ih
      obtain ⟨u, ls⟩ := zq
      obtain ⟨⟨hJ, hJ2⟩, hl⟩ := hq
      try dsimp only at hJ hJ2 hl ih ⊢
      have hu5 : T u = -1 → u < 255 := fun h9 => by rcases Int.lt_or_le u 255 with q | q; exact q; exact absurd (show T 255 = -1 by rw [← h9, show u = 255 by omega]) hT5
      have htu := hTb u
      have ih32 := ih
      refine lv_aload_n hx hb dX5_curve_32 rfl (lv_at hl 0 rfl) ?_
      refine gf_X5_29 hx hb hT hown hK hP 0 rfl rfl dX5_curve_33 ?_
      refine lv_iload_n hx hb dX5_curve_36 rfl (lv_at hl 3 rfl) ?_
      refine z_iald hx hb hK hP 4 rfl (⟨by omega, by omega, by omega⟩) dX5_curve_37 ?_
      refine z_iconst hx hb dX5_curve_38 ?_
      refine z_icmp_ne (tgt := 48) hx hb dX5_curve_39 (by decide) (by omega) (by omega) (fun h39 => ?_) (fun h39 => ?_)
      · skip
        have hup : upR T (255 - b).toNat b = u := by rw [hJ2]; by_cases q : u = 255; (rw [q]; rfl); rw [upR_s T (by omega), if_neg h39]
        have k5 := mul_bs (a := T u - T v) (b := b - v) (A := 256) (B := 255) (by omega) (by omega)
        refine lv_aload_n hx hb dX5_curve_48 rfl (lv_at hl 0 rfl) ?_
        refine gf_X5_29 hx hb hT hown hK hP 0 rfl rfl dX5_curve_49 ?_
        refine lv_iload_n hx hb dX5_curve_52 rfl (lv_at hl 2 rfl) ?_
        refine z_iald hx hb hK hP 4 rfl (⟨by omega, by omega, by omega⟩) dX5_curve_53 ?_
        refine lv_aload_n hx hb dX5_curve_54 rfl (lv_at hl 0 rfl) ?_
        refine gf_X5_29 hx hb hT hown hK hP 0 rfl rfl dX5_curve_55 ?_
        refine lv_iload_n hx hb dX5_curve_58 rfl (lv_at hl 3 rfl) ?_
        refine z_iald hx hb hK hP 4 rfl (⟨by omega, by omega, by omega⟩) dX5_curve_59 ?_
        refine lv_aload_n hx hb dX5_curve_60 rfl (lv_at hl 0 rfl) ?_
        refine gf_X5_29 hx hb hT hown hK hP 0 rfl rfl dX5_curve_61 ?_
        refine lv_iload_n hx hb dX5_curve_64 rfl (lv_at hl 2 rfl) ?_
        refine z_iald hx hb hK hP 4 rfl (⟨by omega, by omega, by omega⟩) dX5_curve_65 ?_
        refine z_isub hx hb dX5_curve_66 ?_
        refine lv_iload_n hx hb dX5_curve_67 rfl (lv_at hl 1 rfl) ?_
        refine lv_iload_n hx hb dX5_curve_68 rfl (lv_at hl 2 rfl) ?_
        refine z_isub hx hb dX5_curve_69 ?_
        refine z_imul hx hb dX5_curve_70 ?_
        refine lv_iload_n hx hb dX5_curve_71 rfl (lv_at hl 3 rfl) ?_
        refine lv_iload_n hx hb dX5_curve_72 rfl (lv_at hl 2 rfl) ?_
        refine z_isub hx hb dX5_curve_73 ?_
        refine z_itdiv hx hb dX5_curve_74 (by omega) (by omega) (by omega) ?_
        refine z_iadd hx hb dX5_curve_75 ?_
        exact z_iret hx hb hr hlocks (by unfold tcV; rw [hdn, hup, if_neg (by omega)]) dX5_curve_76
      · skip
        refine lv_iinc (v := zI (u + (1))) (lv' := [(3, .int (zI (u + (1)))), (0, .ref md), (1, .int (zI (b))), (2, .int (zI (v)))]) hx hb dX5_curve_42 hl (k := 3) rfl (zI_add _ _) (by decide) rfl (fun ls hl => ?_)
        refine z_goto (tgt := 32) hx hb dX5_curve_45 (by decide) ?_
        exact ih32 (u + 1, ls) ⟨⟨by dsimp only; have := hu5 h39; omega, by dsimp only; rw [hJ2, upR_s T (hu5 h39), if_pos h39]⟩, lv_sub hl [1, 2, 3, 0] rfl⟩ (by have := hu5 h39; omega)
    · skip
      refine lv_aload_n hx hb dX5_curve_23 rfl (lv_at hl 0 rfl) ?_
      refine gf_X5_29 hx hb hT hown hK hP 0 rfl rfl dX5_curve_24 ?_
      refine lv_iload_n hx hb dX5_curve_27 rfl (lv_at hl 2 rfl) ?_
      refine z_iald hx hb hK hP 4 rfl (⟨by omega, by omega, by omega⟩) dX5_curve_28 ?_
      exact z_iret hx hb hr hlocks (by unfold tcV; rw [hdn, if_pos (by omega)]) dX5_curve_29
  · skip
    refine lv_iinc (v := zI (v + (-1))) (lv' := [(2, .int (zI (v + (-1)))), (0, .ref md), (1, .int (zI (b)))]) hx hb dX5_curve_12 hl (k := 2) rfl (zI_add _ _) (by decide) rfl (fun ls hl => ?_)
    refine z_goto (tgt := 2) hx hb dX5_curve_15 (by decide) ?_
    exact ih2 (v + (-1), ls) ⟨⟨by dsimp only; have := hv0 h9; omega, by dsimp only; rw [hI2, dnR_s T (hv0 h9), if_pos h9, show v + -1 = v - 1 by omega]⟩, lv_sub hl [1, 2, 0] rfl⟩ (by have := hv0 h9; omega)

set_option maxHeartbeats 4000000 in
set_option maxRecDepth 100000 in
theorem c_X5_floorOf (l : Launch) (G : zG) (x d : Int) (hx1 : -2147483647 ≤ x ∧ x ≤ 2147483647) (hd : 0 < d ∧ d ≤ 1000000) : zRd l yX5_floorOf cX5_floorOf 3 (some .int) { frames := 0, cells := 0, slots := 0, locals := 0 } G [.int (zI (x)), .int (zI (d))] ([]) (x / d) := by
  refine Met.ofW (cc := cX5_floorOf) (maxL := 3) (ret := (some .int)) (by decide) rfl ?_
  intro p e s m args below meth c s₁ B hml hv
  obtain ⟨rfl, hP, hK⟩ := hv
  have hx := B.exec
  have hb := B.bytes
  have hr := B.returns
  have hT : ∀ w ∈ TB, w.before _ s = true := fun w h => atoms_spec (ws := Cond.code yX5_floorOf cX5_floorOf 3 (some .int) :: TB) B.pre w (List.mem_cons_of_mem _ h)
  have hown : s.vm.findClass RX5 = some m.cls := findClass_of_methodNamed B.named
  have hlocks := B.notSynchronized
  have hl := lv_entry ([.int (zI (x)), .int (zI (d))]) (n := 3) (Nat.le_of_ble_eq_true rfl)
  rw [lg_entry_eq]
  generalize (lg_sl ([.int (zI (x)), .int (zI (d))]) ++ List.replicate (3 - (lg_sl ([.int (zI (x)), .int (zI (d))])).length) Slot.unset).toArray = ls at hl ⊢
  have hl : lv_has ls 3 [(0, .int (zI (x))), (1, .int (zI (d)))] := hl
  have hdm := Int.mul_ediv_add_emod x d
  have hm1 := Int.emod_nonneg x (show d ≠ 0 by omega)
  have hm2 := Int.emod_lt_of_pos x (show 0 < d by omega)
  obtain ⟨hT1, hT2⟩ := tdiv_spec x hd
  have htm := tmod_bounds (a := x) (M := d) (by omega)
  have htb := tdiv_b x hd hx1
  refine lv_iload_n hx hb dX5_floorOf_0 rfl (lv_at hl 0 rfl) ?_
  refine lv_iload_n hx hb dX5_floorOf_1 rfl (lv_at hl 1 rfl) ?_
  refine z_itdiv hx hb dX5_floorOf_2 (by omega) (by omega) (by omega) ?_
  refine lv_istore_n (lv' := [(2, .int (zI ((Int.tdiv (x) (d))))), (0, .int (zI (x))), (1, .int (zI (d)))]) hx hb dX5_floorOf_3 rfl hl (by decide) rfl (fun ls hl => ?_)
  refine lv_iload_n hx hb dX5_floorOf_4 rfl (lv_at hl 1 rfl) ?_
  refine lv_iload_n hx hb dX5_floorOf_5 rfl (lv_at hl 2 rfl) ?_
  refine z_itrem hx hb dX5_floorOf_6 (by omega) (by omega) (by omega) ?_
  refine z_if_ge (tgt := 16) hx hb dX5_floorOf_7 (by decide) (by omega) (fun h7 => ?_) (fun h7 => ?_)
  · skip
    refine lv_iload_n hx hb dX5_floorOf_16 rfl (lv_at hl 0 rfl) ?_
    exact z_iret hx hb hr hlocks (by omega) dX5_floorOf_17
  · skip
    refine lv_iload_n hx hb dX5_floorOf_10 rfl (lv_at hl 0 rfl) ?_
    refine z_iconst hx hb dX5_floorOf_11 ?_
    refine z_isub hx hb dX5_floorOf_12 ?_
    refine z_goto (tgt := 17) hx hb dX5_floorOf_13 (by decide) ?_
    exact z_iret hx hb hr hlocks (by omega) dX5_floorOf_17

set_option maxHeartbeats 4000000 in
set_option maxRecDepth 100000 in
theorem c_X5_size (l : Launch) (G : zG) (v : Int) (hv : -1000 ≤ v ∧ v ≤ 1000) : zRd l yX5_size cX5_size 1 (some .int) { frames := 0, cells := 0, slots := 0, locals := 0 } G [.int (zI (v))] ([]) (if v < 0 then -v else v) := by
  refine Met.ofW (cc := cX5_size) (maxL := 1) (ret := (some .int)) (by decide) rfl ?_
  intro p e s m args below meth c s₁ B hml hv
  obtain ⟨rfl, hP, hK⟩ := hv
  have hx := B.exec
  have hb := B.bytes
  have hr := B.returns
  have hT : ∀ w ∈ TB, w.before _ s = true := fun w h => atoms_spec (ws := Cond.code yX5_size cX5_size 1 (some .int) :: TB) B.pre w (List.mem_cons_of_mem _ h)
  have hown : s.vm.findClass RX5 = some m.cls := findClass_of_methodNamed B.named
  have hlocks := B.notSynchronized
  have hl := lv_entry ([.int (zI (v))]) (n := 1) (Nat.le_of_ble_eq_true rfl)
  rw [lg_entry_eq]
  generalize (lg_sl ([.int (zI (v))]) ++ List.replicate (1 - (lg_sl ([.int (zI (v))])).length) Slot.unset).toArray = ls at hl ⊢
  have hl : lv_has ls 1 [(0, .int (zI (v)))] := hl
  refine lv_iload_n hx hb dX5_size_0 rfl (lv_at hl 0 rfl) ?_
  refine z_if_ge (tgt := 9) hx hb dX5_size_1 (by decide) (by omega) (fun h1 => ?_) (fun h1 => ?_)
  · skip
    refine lv_iload_n hx hb dX5_size_9 rfl (lv_at hl 0 rfl) ?_
    exact z_iret hx hb hr hlocks (by split <;> omega) dX5_size_10
  · skip
    refine lv_iload_n hx hb dX5_size_4 rfl (lv_at hl 0 rfl) ?_
    refine z_ineg hx hb dX5_size_5 ?_
    refine z_goto (tgt := 10) hx hb dX5_size_6 (by decide) ?_
    exact z_iret hx hb hr hlocks (by split <;> omega) dX5_size_10

set_option maxHeartbeats 4000000 in
set_option maxRecDepth 100000 in
theorem c_X5_sameOf (l : Launch) (G : zG) (md ma mb mc mt m1 m2 m3 m4 m5 m6 m7 : Nat) (th w h cnt most rch tl nc : Int) (M Y C T CA CB CN CG CS Z K : Int → Int) (c9 x y : Int) (hc9 : 0 ≤ c9 ∧ c9 < 6) (hci : clIn CN CG CS c9) (hxx : -1000000 ≤ x ∧ x ≤ 1000000) (hyy : -1000000 ≤ y ∧ y ≤ 1000000) : zRd l yX5_sameOf cX5_sameOf 8 (some .int) { frames := 1, cells := 0, slots := 0, locals := 22 } G [.ref md, .int (zI (c9)), .int (zI (x)), .int (zI (y))] (mdL G md ma mb mc mt m1 m2 m3 m4 m5 m6 m7 th w h cnt most rch tl nc M Y C T CA CB CN CG CS Z K) (nmV (CG c9) (CN c9 / CG c9) (CS c9) x y) := by
  refine Met.ofW (cc := cX5_sameOf) (maxL := 8) (ret := (some .int)) (by decide) rfl ?_
  intro p e s m args below meth c s₁ B hml hv
  obtain ⟨rfl, hP, hK⟩ := hv
  have hx := B.exec
  have hb := B.bytes
  have hr := B.returns
  have hT : ∀ w ∈ TB, w.before _ s = true := fun w h => atoms_spec (ws := Cond.code yX5_sameOf cX5_sameOf 8 (some .int) :: TB) B.pre w (List.mem_cons_of_mem _ h)
  have hown : s.vm.findClass RX5 = some m.cls := findClass_of_methodNamed B.named
  have hlocks := B.notSynchronized
  have hl := lv_entry ([.ref md, .int (zI (c9)), .int (zI (x)), .int (zI (y))]) (n := 8) (Nat.le_of_ble_eq_true rfl)
  rw [lg_entry_eq]
  generalize (lg_sl ([.ref md, .int (zI (c9)), .int (zI (x)), .int (zI (y))]) ++ List.replicate (8 - (lg_sl ([.ref md, .int (zI (c9)), .int (zI (x)), .int (zI (y))])).length) Slot.unset).toArray = ls at hl ⊢
  have hl : lv_has ls 8 [(0, .ref md), (1, .int (zI (c9))), (2, .int (zI (x))), (3, .int (zI (y)))] := hl
  obtain ⟨hg1, hn1, hs1, hgn⟩ := id hci
  have hk1 := dv_b (d := CG c9) (by omega) hyy
  have hk2 := mul_bs (a := y / CG c9) (b := CS c9) (A := 1000000) (B := 300) (by omega) (by omega)
  have hr1 := row_b hci
  have hdy := Int.mul_ediv_add_emod (x - y / CG c9 * CS c9) (CN c9 / CG c9)
  have hcm := Int.mul_comm ((x - y / CG c9 * CS c9) / (CN c9 / CG c9)) (CN c9 / CG c9)
  have hcn := Int.mul_comm (CN c9 / CG c9) (y - y / CG c9 * CG c9)
  refine lv_iload_n hx hb dX5_sameOf_0 rfl (lv_at hl 3 rfl) ?_
  refine lv_aload_n hx hb dX5_sameOf_1 rfl (lv_at hl 0 rfl) ?_
  refine gf_X5_44 hx hb hT hown hK hP 0 rfl rfl dX5_sameOf_2 ?_
  refine lv_iload_n hx hb dX5_sameOf_5 rfl (lv_at hl 1 rfl) ?_
  refine z_iald hx hb hK hP 8 rfl (⟨by omega, by omega, by omega⟩) dX5_sameOf_6 ?_
  refine z_callS (G := G) (As := [.int (zI (y)), .int (zI ((CG c9)))]) (rest := []) hx hb hml hown hT hK (c_X5_floorOf l G (y) ((CG c9)) (by omega) (by omega)) kc_X5_116 ⟨Nat.le_of_ble_eq_true rfl, Nat.le_of_ble_eq_true rfl⟩ ⟨rfl, rfl⟩ ⟨Nat.zero_le _, Nat.zero_le _⟩ (hP.sub [] rfl) rfl hl.1 rfl (Nat.le_of_ble_eq_true rfl) dX5_sameOf_7 ?_
  refine lv_istore (lv' := [(4, .int (zI ((y / (CG c9))))), (0, .ref md), (1, .int (zI (c9))), (2, .int (zI (x))), (3, .int (zI (y)))]) hx hb dX5_sameOf_10 hl (by decide) rfl (fun ls hl => ?_)
  refine lv_aload_n hx hb dX5_sameOf_12 rfl (lv_at hl 1 rfl) ?_
  refine gf_X5_41 hx hb hT hown hK hP 0 rfl rfl dX5_sameOf_13 ?_
  refine lv_iload_n hx hb dX5_sameOf_16 rfl (lv_at hl 2 rfl) ?_
  refine z_iald hx hb hK hP 7 rfl (⟨by omega, by omega, by omega⟩) dX5_sameOf_17 ?_
  refine lv_aload_n hx hb dX5_sameOf_18 rfl (lv_at hl 1 rfl) ?_
  refine gf_X5_44 hx hb hT hown hK hP 0 rfl rfl dX5_sameOf_19 ?_
  refine lv_iload_n hx hb dX5_sameOf_22 rfl (lv_at hl 2 rfl) ?_
  refine z_iald hx hb hK hP 8 rfl (⟨by omega, by omega, by omega⟩) dX5_sameOf_23 ?_
  refine z_idiv hx hb dX5_sameOf_24 (by omega) (by omega) ?_
  refine lv_istore (lv' := [(5, .int (zI (((CN c9) / (CG c9))))), (4, .int (zI ((y / (CG c9))))), (0, .ref md), (1, .int (zI (c9))), (2, .int (zI (x))), (3, .int (zI (y)))]) hx hb dX5_sameOf_25 hl (by decide) rfl (fun ls hl => ?_)
  refine lv_iload_n hx hb dX5_sameOf_27 rfl (lv_at hl 4 rfl) ?_
  refine lv_iload hx hb dX5_sameOf_28 (lv_at hl 1 rfl) ?_
  refine lv_aload_n hx hb dX5_sameOf_30 rfl (lv_at hl 2 rfl) ?_
  refine gf_X5_47 hx hb hT hown hK hP 0 rfl rfl dX5_sameOf_31 ?_
  refine lv_iload_n hx hb dX5_sameOf_34 rfl (lv_at hl 3 rfl) ?_
  refine z_iald hx hb hK hP 9 rfl (⟨by omega, by omega, by omega⟩) dX5_sameOf_35 ?_
  refine z_imul hx hb dX5_sameOf_36 ?_
  refine z_isub hx hb dX5_sameOf_37 ?_
  refine lv_istore (lv' := [(6, .int (zI ((x - ((y / (CG c9)) * (CS c9)))))), (5, .int (zI (((CN c9) / (CG c9))))), (4, .int (zI ((y / (CG c9))))), (0, .ref md), (1, .int (zI (c9))), (2, .int (zI (x))), (3, .int (zI (y)))]) hx hb dX5_sameOf_38 hl (by decide) rfl (fun ls hl => ?_)
  refine lv_iload_n hx hb dX5_sameOf_40 rfl (lv_at hl 6 rfl) ?_
  refine lv_iload hx hb dX5_sameOf_41 (lv_at hl 2 rfl) ?_
  refine lv_aload_n hx hb dX5_sameOf_43 rfl (lv_at hl 3 rfl) ?_
  refine gf_X5_44 hx hb hT hown hK hP 0 rfl rfl dX5_sameOf_44 ?_
  refine lv_iload_n hx hb dX5_sameOf_47 rfl (lv_at hl 4 rfl) ?_
  refine z_iald hx hb hK hP 8 rfl (⟨by omega, by omega, by omega⟩) dX5_sameOf_48 ?_
  refine z_imul hx hb dX5_sameOf_49 ?_
  refine z_isub hx hb dX5_sameOf_50 ?_
  refine lv_istore (lv' := [(7, .int (zI ((y - ((y / (CG c9)) * (CG c9)))))), (6, .int (zI ((x - ((y / (CG c9)) * (CS c9)))))), (5, .int (zI (((CN c9) / (CG c9))))), (4, .int (zI ((y / (CG c9))))), (0, .ref md), (1, .int (zI (c9))), (2, .int (zI (x))), (3, .int (zI (y)))]) hx hb dX5_sameOf_51 hl (by decide) rfl (fun ls hl => ?_)
  refine lv_iload hx hb dX5_sameOf_53 (lv_at hl 1 rfl) ?_
  refine lv_iload hx hb dX5_sameOf_55 (lv_at hl 1 rfl) ?_
  refine lv_iload hx hb dX5_sameOf_57 (lv_at hl 2 rfl) ?_
  refine z_callS (G := G) (As := [.int (zI ((x - ((y / (CG c9)) * (CS c9))))), .int (zI (((CN c9) / (CG c9))))]) (rest := [.int (zI ((x - ((y / (CG c9)) * (CS c9)))))]) hx hb hml hown hT hK (c_X5_floorOf l G ((x - ((y / (CG c9)) * (CS c9)))) (((CN c9) / (CG c9))) (by omega) (by omega)) kc_X5_116 ⟨Nat.le_of_ble_eq_true rfl, Nat.le_of_ble_eq_true rfl⟩ ⟨rfl, rfl⟩ ⟨Nat.zero_le _, Nat.zero_le _⟩ (hP.sub [] rfl) rfl hl.1 rfl (Nat.le_of_ble_eq_true rfl) dX5_sameOf_59 ?_
  refine lv_iload hx hb dX5_sameOf_62 (lv_at hl 2 rfl) ?_
  refine z_imul hx hb dX5_sameOf_64 ?_
  refine z_isub hx hb dX5_sameOf_65 ?_
  refine lv_iload hx hb dX5_sameOf_66 (lv_at hl 2 rfl) ?_
  refine lv_iload hx hb dX5_sameOf_68 (lv_at hl 0 rfl) ?_
  refine z_imul hx hb dX5_sameOf_70 ?_
  refine z_iadd hx hb dX5_sameOf_71 ?_
  exact z_iret hx hb hr hlocks (by unfold nmV; omega) dX5_sameOf_72

set_option maxHeartbeats 4000000 in
set_option maxRecDepth 100000 in
theorem c_X5_common (l : Launch) (G : zG) (a b : Int) (ha : 0 ≤ a ∧ a ≤ 100) (hb1 : 0 ≤ b ∧ b ≤ 100) : zRd l yX5_common cX5_common 4 (some .int) { frames := 0, cells := 0, slots := 0, locals := 0 } G [.int (zI (a)), .int (zI (b))] ([]) (cdR a b 11) := by
  refine Met.ofW (cc := cX5_common) (maxL := 4) (ret := (some .int)) (by decide) rfl ?_
  intro p e s m args below meth c s₁ B hml hv
  obtain ⟨rfl, hP, hK⟩ := hv
  have hx := B.exec
  have hb := B.bytes
  have hr := B.returns
  have hT : ∀ w ∈ TB, w.before _ s = true := fun w h => atoms_spec (ws := Cond.code yX5_common cX5_common 4 (some .int) :: TB) B.pre w (List.mem_cons_of_mem _ h)
  have hown : s.vm.findClass RX5 = some m.cls := findClass_of_methodNamed B.named
  have hlocks := B.notSynchronized
  have hl := lv_entry ([.int (zI (a)), .int (zI (b))]) (n := 4) (Nat.le_of_ble_eq_true rfl)
  rw [lg_entry_eq]
  generalize (lg_sl ([.int (zI (a)), .int (zI (b))]) ++ List.replicate (4 - (lg_sl ([.int (zI (a)), .int (zI (b))])).length) Slot.unset).toArray = ls at hl ⊢
  have hl : lv_has ls 4 [(0, .int (zI (a))), (1, .int (zI (b)))] := hl
  refine z_iconst hx hb dX5_common_0 ?_
  refine lv_istore_n (lv' := [(2, .int (zI (1))), (0, .int (zI (a))), (1, .int (zI (b)))]) hx hb dX5_common_1 rfl hl (by decide) rfl (fun ls hl => ?_)
  refine z_iconst hx hb dX5_common_2 ?_
  refine lv_istore_n (lv' := [(3, .int (zI (2))), (2, .int (zI (1))), (0, .int (zI (a))), (1, .int (zI (b)))]) hx hb dX5_common_3 rfl hl (by decide) rfl (fun ls hl => ?_)
  refine z_loop (σ := Int × Array Slot) (fun zq => F0 m 4 (zq.2) []) (fun zq => (2 ≤ zq.1 ∧ zq.1 ≤ 13) ∧ lv_has (zq.2) 4 [(0, .int (zI (a))), (1, .int (zI (b))), (2, .int (zI (cdR a b (zq.1 - 2).toNat))), (3, .int (zI (zq.1)))]) (fun zq => (13 - zq.1).toNat) ?_ (2, ls) ⟨by refine ⟨?_, ?_⟩ <;> omega, lv_sub hl [2, 3, 1, 0] rfl⟩
  intro zq hq ih
  obtain ⟨d, ls⟩ := zq
  obtain ⟨hI, hl⟩ := hq
  try dsimp only at hI hl ih ⊢
  have ih4 := ih
  refine lv_iload_n hx hb dX5_common_4 rfl (lv_at hl 3 rfl) ?_
  refine z_bipush hx hb dX5_common_5 (by decide +kernel) ?_
  refine z_icmp_gt (tgt := 34) hx hb dX5_common_7 (by decide) (by omega) (by omega) (fun h7 => ?_) (fun h7 => ?_)
  · skip
    refine lv_iload_n hx hb dX5_common_34 rfl (lv_at hl 2 rfl) ?_
    exact z_iret hx hb hr hlocks (by have h9 : d = 13 := (by omega); rw [h9]; rfl) dX5_common_35
  · skip
    refine lv_iload_n hx hb dX5_common_10 rfl (lv_at hl 0 rfl) ?_
    refine lv_iload_n hx hb dX5_common_11 rfl (lv_at hl 3 rfl) ?_
    refine z_itrem hx hb dX5_common_12 (by omega) (by omega) (by omega) ?_
    have ht1 := tmod_bounds (a := a) (M := d) (by omega)
    refine z_if_ne (tgt := 26) hx hb dX5_common_13 (by decide) (by omega) (fun h13 => ?_) (fun h13 => ?_)
    · skip
      refine lv_iload_n hx hb dX5_common_26 rfl (lv_at hl 2 rfl) ?_
      refine z_top (cdR a b (d - 1).toNat) (by rw [cdR_s a b (by omega)]; split <;> first | rfl | (exfalso; omega)) ?_
      refine lv_istore_n (lv' := [(2, .int (zI (cdR a b (d - 1).toNat))), (0, .int (zI (a))), (1, .int (zI (b))), (3, .int (zI (d)))]) hx hb dX5_common_27 rfl hl (by decide) rfl (fun ls hl => ?_)
      refine lv_iinc (v := zI (d + (1))) (lv' := [(3, .int (zI (d + (1)))), (2, .int (zI (cdR a b (d - 1).toNat))), (0, .int (zI (a))), (1, .int (zI (b)))]) hx hb dX5_common_28 hl (k := 3) rfl (zI_add _ _) (by decide) rfl (fun ls hl => ?_)
      refine z_goto (tgt := 4) hx hb dX5_common_31 (by decide) ?_
      rw [show d - 1 = d + 1 - 2 by omega] at hl
      exact ih4 (d + 1, ls) ⟨by refine ⟨?_, ?_⟩ <;> omega, lv_sub hl [2, 3, 1, 0] rfl⟩ (by omega)
    · skip
      refine lv_iload_n hx hb dX5_common_16 rfl (lv_at hl 1 rfl) ?_
      refine lv_iload_n hx hb dX5_common_17 rfl (lv_at hl 3 rfl) ?_
      refine z_itrem hx hb dX5_common_18 (by omega) (by omega) (by omega) ?_
      have ht2 := tmod_bounds (a := b) (M := d) (by omega)
      refine z_if_ne (tgt := 26) hx hb dX5_common_19 (by decide) (by omega) (fun h19 => ?_) (fun h19 => ?_)
      · skip
        refine lv_iload_n hx hb dX5_common_26 rfl (lv_at hl 2 rfl) ?_
        refine z_top (cdR a b (d - 1).toNat) (by rw [cdR_s a b (by omega)]; split <;> first | rfl | (exfalso; omega)) ?_
        refine lv_istore_n (lv' := [(2, .int (zI (cdR a b (d - 1).toNat))), (0, .int (zI (a))), (1, .int (zI (b))), (3, .int (zI (d)))]) hx hb dX5_common_27 rfl hl (by decide) rfl (fun ls hl => ?_)
        refine lv_iinc (v := zI (d + (1))) (lv' := [(3, .int (zI (d + (1)))), (2, .int (zI (cdR a b (d - 1).toNat))), (0, .int (zI (a))), (1, .int (zI (b)))]) hx hb dX5_common_28 hl (k := 3) rfl (zI_add _ _) (by decide) rfl (fun ls hl => ?_)
        refine z_goto (tgt := 4) hx hb dX5_common_31 (by decide) ?_
        rw [show d - 1 = d + 1 - 2 by omega] at hl
        exact ih4 (d + 1, ls) ⟨by refine ⟨?_, ?_⟩ <;> omega, lv_sub hl [2, 3, 1, 0] rfl⟩ (by omega)
      · skip
        refine lv_iload_n hx hb dX5_common_22 rfl (lv_at hl 3 rfl) ?_
        refine z_goto (tgt := 27) hx hb dX5_common_23 (by decide) ?_
        refine z_top (cdR a b (d - 1).toNat) (by rw [cdR_s a b (by omega)]; split <;> first | rfl | (exfalso; omega)) ?_
        refine lv_istore_n (lv' := [(2, .int (zI (cdR a b (d - 1).toNat))), (0, .int (zI (a))), (1, .int (zI (b))), (3, .int (zI (d)))]) hx hb dX5_common_27 rfl hl (by decide) rfl (fun ls hl => ?_)
        refine lv_iinc (v := zI (d + (1))) (lv' := [(3, .int (zI (d + (1)))), (2, .int (zI (cdR a b (d - 1).toNat))), (0, .int (zI (a))), (1, .int (zI (b)))]) hx hb dX5_common_28 hl (k := 3) rfl (zI_add _ _) (by decide) rfl (fun ls hl => ?_)
        refine z_goto (tgt := 4) hx hb dX5_common_31 (by decide) ?_
        rw [show d - 1 = d + 1 - 2 by omega] at hl
        exact ih4 (d + 1, ls) ⟨by refine ⟨?_, ?_⟩ <;> omega, lv_sub hl [2, 3, 1, 0] rfl⟩ (by omega)

set_option maxHeartbeats 4000000 in
set_option maxRecDepth 100000 in
theorem c_X5_shiftOf (l : Launch) (G : zG) (a b dn : Int) (ha : -12 ≤ a ∧ a ≤ 12) (hb1 : -12 ≤ b ∧ b ≤ 12) (hdn : 0 ≤ dn ∧ dn ≤ 300) : zRd l yX5_shiftOf cX5_shiftOf 5 (some .int) { frames := 0, cells := 0, slots := 0, locals := 0 } G [.int (zI (a)), .int (zI (b)), .int (zI (dn))] ([]) (fiR a b dn 25) := by
  refine Met.ofW (cc := cX5_shiftOf) (maxL := 5) (ret := (some .int)) (by decide) rfl ?_
  intro p e s m args below meth c s₁ B hml hv
  obtain ⟨rfl, hP, hK⟩ := hv
  have hx := B.exec
  have hb := B.bytes
  have hr := B.returns
  have hT : ∀ w ∈ TB, w.before _ s = true := fun w h => atoms_spec (ws := Cond.code yX5_shiftOf cX5_shiftOf 5 (some .int) :: TB) B.pre w (List.mem_cons_of_mem _ h)
  have hown : s.vm.findClass RX5 = some m.cls := findClass_of_methodNamed B.named
  have hlocks := B.notSynchronized
  have hl := lv_entry ([.int (zI (a)), .int (zI (b)), .int (zI (dn))]) (n := 5) (Nat.le_of_ble_eq_true rfl)
  rw [lg_entry_eq]
  generalize (lg_sl ([.int (zI (a)), .int (zI (b)), .int (zI (dn))]) ++ List.replicate (5 - (lg_sl ([.int (zI (a)), .int (zI (b)), .int (zI (dn))])).length) Slot.unset).toArray = ls at hl ⊢
  have hl : lv_has ls 5 [(0, .int (zI (a))), (1, .int (zI (b))), (2, .int (zI (dn)))] := hl
  refine z_bipush hx hb dX5_shiftOf_0 (by decide +kernel) ?_
  refine lv_istore_n (lv' := [(3, .int (zI ((-12)))), (0, .int (zI (a))), (1, .int (zI (b))), (2, .int (zI (dn)))]) hx hb dX5_shiftOf_2 rfl hl (by decide) rfl (fun ls hl => ?_)
  refine z_loop (σ := Int × Array Slot) (fun zq => F0 m 3 (zq.2) []) (fun zq => ((-12 ≤ zq.1 ∧ zq.1 ≤ 13) ∧ fiR a b dn 25 = fiR a b dn (13 - zq.1).toNat) ∧ lv_has (zq.2) 5 [(0, .int (zI (a))), (1, .int (zI (b))), (2, .int (zI (dn))), (3, .int (zI (zq.1)))]) (fun zq => (13 - zq.1).toNat) ?_ ((-12), ls) ⟨⟨by dsimp only; omega, rfl⟩, lv_sub hl [1, 2, 3, 0] rfl⟩
  intro zq hq ih
  obtain ⟨i, ls⟩ := zq
  obtain ⟨⟨hI, hI2⟩, hl⟩ := hq
  try dsimp only at hI hI2 hl ih ⊢
  have ih3 := ih
  refine lv_iload_n hx hb dX5_shiftOf_3 rfl (lv_at hl 3 rfl) ?_
  refine z_bipush hx hb dX5_shiftOf_4 (by decide +kernel) ?_
  refine z_icmp_gt (tgt := 53) hx hb dX5_shiftOf_6 (by decide) (by omega) (by omega) (fun h6 => ?_) (fun h6 => ?_)
  · skip
    refine z_iconst hx hb dX5_shiftOf_53 ?_
    exact z_iret hx hb hr hlocks (by rw [hI2, show (13 - i).toNat = 0 by omega]; rfl) dX5_shiftOf_54
  · skip
    refine z_bipush hx hb dX5_shiftOf_9 (by decide +kernel) ?_
    refine lv_istore (lv' := [(4, .int (zI ((-12)))), (0, .int (zI (a))), (1, .int (zI (b))), (2, .int (zI (dn))), (3, .int (zI (i)))]) hx hb dX5_shiftOf_11 hl (by decide) rfl (fun ls hl => ?_)
    refine z_loop (σ := Int × Array Slot) (fun zq => F0 m 13 (zq.2) []) (fun zq => ((-12 ≤ zq.1 ∧ zq.1 ≤ 13) ∧ fiR a b dn 25 = oor (fjR a b dn i (13 - zq.1).toNat) (fiR a b dn (12 - i).toNat)) ∧ lv_has (zq.2) 5 [(0, .int (zI (a))), (1, .int (zI (b))), (2, .int (zI (dn))), (3, .int (zI (i))), (4, .int (zI (zq.1)))]) (fun zq => (13 - zq.1).toNat) ?_ ((-12), ls) ⟨⟨by dsimp only; omega, by dsimp only; rw [hI2, fiR_s a b dn (by omega)]; rfl⟩, lv_sub hl [1, 2, 3, 4, 0] rfl⟩
    intro zq hq ih
    obtain ⟨j, ls⟩ := zq
    obtain ⟨⟨hJ, hJ2⟩, hl⟩ := hq
    try dsimp only at hJ hJ2 hl ih ⊢
    have ih13 := ih
    refine lv_iload hx hb dX5_shiftOf_13 (lv_at hl 4 rfl) ?_
    refine z_bipush hx hb dX5_shiftOf_15 (by decide +kernel) ?_
    refine z_icmp_gt (tgt := 47) hx hb dX5_shiftOf_17 (by decide) (by omega) (by omega) (fun h17 => ?_) (fun h17 => ?_)
    · skip
      refine lv_iinc (v := zI (i + (1))) (lv' := [(3, .int (zI (i + (1)))), (0, .int (zI (a))), (1, .int (zI (b))), (2, .int (zI (dn))), (4, .int (zI (j)))]) hx hb dX5_shiftOf_47 hl (k := 3) rfl (zI_add _ _) (by decide) rfl (fun ls hl => ?_)
      refine z_goto (tgt := 3) hx hb dX5_shiftOf_50 (by decide) ?_
      exact ih3 (i + 1, ls) ⟨⟨by dsimp only; omega, by dsimp only; rw [hJ2, show (13 - j).toNat = 0 by omega, show 13 - (i + 1) = 12 - i by omega]; rfl⟩, lv_sub hl [1, 2, 3, 0] rfl⟩ (by omega)
    · skip
      have m1 := mul_bs (a := b) (b := i) (A := 12) (B := 12) (by omega) (by omega)
      have m2 := mul_bs (a := a) (b := j) (A := 12) (B := 12) (by omega) (by omega)
      have m3 := mul_bs (a := a) (b := i) (A := 12) (B := 12) (by omega) (by omega)
      have m4 := mul_bs (a := b) (b := j) (A := 12) (B := 12) (by omega) (by omega)
      refine lv_iload_n hx hb dX5_shiftOf_20 rfl (lv_at hl 3 rfl) ?_
      refine lv_iload_n hx hb dX5_shiftOf_21 rfl (lv_at hl 1 rfl) ?_
      refine z_imul hx hb dX5_shiftOf_22 ?_
      refine lv_iload hx hb dX5_shiftOf_23 (lv_at hl 4 rfl) ?_
      refine lv_iload_n hx hb dX5_shiftOf_25 rfl (lv_at hl 0 rfl) ?_
      refine z_imul hx hb dX5_shiftOf_26 ?_
      refine z_iadd hx hb dX5_shiftOf_27 ?_
      refine z_top ((b * i + a * j)) (by rw [Int.mul_comm i b, Int.mul_comm j a]) ?_
      refine lv_iload_n hx hb dX5_shiftOf_28 rfl (lv_at hl 2 rfl) ?_
      refine z_icmp_ne (tgt := 41) hx hb dX5_shiftOf_29 (by decide) (by omega) (by omega) (fun h29 => ?_) (fun h29 => ?_)
      · skip
        refine lv_iinc (v := zI (j + (1))) (lv' := [(4, .int (zI (j + (1)))), (0, .int (zI (a))), (1, .int (zI (b))), (2, .int (zI (dn))), (3, .int (zI (i)))]) hx hb dX5_shiftOf_41 hl (k := 4) rfl (zI_add _ _) (by decide) rfl (fun ls hl => ?_)
        refine z_goto (tgt := 13) hx hb dX5_shiftOf_44 (by decide) ?_
        exact ih13 (j + 1, ls) ⟨⟨by dsimp only; omega, by dsimp only; rw [hJ2, fjR_s a b dn i (by omega), if_neg h29, show 13 - (j + 1) = 12 - j by omega]⟩, lv_sub hl [1, 2, 3, 4, 0] rfl⟩ (by omega)
      · skip
        refine lv_iload_n hx hb dX5_shiftOf_32 rfl (lv_at hl 3 rfl) ?_
        refine lv_iload_n hx hb dX5_shiftOf_33 rfl (lv_at hl 0 rfl) ?_
        refine z_imul hx hb dX5_shiftOf_34 ?_
        refine lv_iload hx hb dX5_shiftOf_35 (lv_at hl 4 rfl) ?_
        refine lv_iload_n hx hb dX5_shiftOf_37 rfl (lv_at hl 1 rfl) ?_
        refine z_imul hx hb dX5_shiftOf_38 ?_
        refine z_isub hx hb dX5_shiftOf_39 ?_
        refine z_top ((a * i - b * j)) (by rw [Int.mul_comm i a, Int.mul_comm j b]) ?_
        exact z_iret hx hb hr hlocks (by rw [hJ2, fjR_s a b dn i (by omega), if_pos h29]; rfl) dX5_shiftOf_40

set_option maxHeartbeats 4000000 in
set_option maxRecDepth 100000 in
theorem c_X5_begins (l : Launch) (G : zG) (md ma mb mc mt m1 m2 m3 m4 m5 m6 m7 : Nat) (th w h cnt most rch tl nc : Int) (M Y C T CA CB CN CG CS Z K : Int → Int) (x y k : Int) (hm : mdOK w h cnt most rch tl nc M Y C T CN CG CS K) (hxx : 0 ≤ x ∧ x < w) (hyy : 0 ≤ y ∧ y < h) (hk : 0 ≤ k ∧ k < 8) : zRd l yX5_begins cX5_begins 4 (some .boolean) { frames := 1, cells := 0, slots := 0, locals := 23 } G [.ref md, .int (zI (x)), .int (zI (y)), .int (zI (k))] (mdL G md ma mb mc mt m1 m2 m3 m4 m5 m6 m7 th w h cnt most rch tl nc M Y C T CA CB CN CG CS Z K) (bI (stR (PPf Y w (w * h)) (w * h) w k (x + w * y))) := by
  refine Met.ofW (cc := cX5_begins) (maxL := 4) (ret := (some .boolean)) (by decide) rfl ?_
  intro p e s m args below meth c s₁ B hml hv
  obtain ⟨rfl, hP, hK⟩ := hv
  have hx := B.exec
  have hb := B.bytes
  have hr := B.returns
  have hT : ∀ w ∈ TB, w.before _ s = true := fun w h => atoms_spec (ws := Cond.code yX5_begins cX5_begins 4 (some .boolean) :: TB) B.pre w (List.mem_cons_of_mem _ h)
  have hown : s.vm.findClass RX5 = some m.cls := findClass_of_methodNamed B.named
  have hlocks := B.notSynchronized
  have hl := lv_entry ([.ref md, .int (zI (x)), .int (zI (y)), .int (zI (k))]) (n := 4) (Nat.le_of_ble_eq_true rfl)
  rw [lg_entry_eq]
  generalize (lg_sl ([.ref md, .int (zI (x)), .int (zI (y)), .int (zI (k))]) ++ List.replicate (4 - (lg_sl ([.ref md, .int (zI (x)), .int (zI (y)), .int (zI (k))])).length) Slot.unset).toArray = ls at hl ⊢
  have hl : lv_has ls 4 [(0, .ref md), (1, .int (zI (x))), (2, .int (zI (y))), (3, .int (zI (k)))] := hl
  obtain ⟨hw, hh, hcnt, hmost, hrch, hM, hY, hC, hTb, hT0, hT5, htl, hnc, hcl, hKb⟩ := id hm
  have hpt := md_pts hm
  have hPb : ∀ j, 0 ≤ PPf Y w (w * h) j ∧ PPf Y w (w * h) j ≤ 255 := fun j => hY _
  have hxm := (qr (a := y) (b := w) (r := x) (by omega) hxx).1
  have hb1 := hPb (k * (w * h) + (x + w * y))
  have hb2 := hPb (k * (w * h) + (x + w * y - 1))
  refine lv_iload_n hx hb dX5_begins_0 rfl (lv_at hl 1 rfl) ?_
  refine z_if_eq (tgt := 23) hx hb dX5_begins_1 (by decide) (by omega) (fun h1 => ?_) (fun h1 => ?_)
  · skip
    refine z_iconst hx hb dX5_begins_23 ?_
    refine z_goto (tgt := 28) hx hb dX5_begins_24 (by decide) ?_
    exact z_zret hx hb hr hlocks (by first | exact Or.inl rfl | exact Or.inr rfl) (by refine bI_cases (fun h9 => ?_) (fun h9 => ?_) <;> first | rfl | (exfalso; simp only [stR, Bool.and_eq_true, Bool.and_eq_false_iff, Bool.or_eq_true, Bool.or_eq_false_iff, decide_eq_true_eq, decide_eq_false_iff_not] at h9; omega)) dX5_begins_28
  · skip
    refine lv_aload_n hx hb dX5_begins_4 rfl (lv_at hl 0 rfl) ?_
    refine lv_iload_n hx hb dX5_begins_5 rfl (lv_at hl 1 rfl) ?_
    refine lv_iload_n hx hb dX5_begins_6 rfl (lv_at hl 2 rfl) ?_
    refine lv_iload_n hx hb dX5_begins_7 rfl (lv_at hl 3 rfl) ?_
    refine z_callV (q0 := 0) (G := G) (As := [.int (zI (x)), .int (zI (y)), .int (zI (k))]) (rest := []) hx hb hml hown hT hK (c_X5_byteAt l G md ma mb mc mt m1 m2 m3 m4 m5 m6 m7 th w h cnt most rch tl nc M Y C T CA CB CN CG CS Z K (x) (y) (k) hm (by omega) (by omega) (by omega)) kc_X5_87 ⟨Nat.le_of_ble_eq_true rfl, Nat.le_of_ble_eq_true rfl⟩ ⟨rfl, rfl⟩ ⟨Nat.zero_le _, Nat.zero_le _⟩ hP rfl rfl rfl rfl hl.1 rfl (Nat.le_of_ble_eq_true rfl) dX5_begins_8 ?_
    refine lv_aload_n hx hb dX5_begins_11 rfl (lv_at hl 0 rfl) ?_
    refine lv_iload_n hx hb dX5_begins_12 rfl (lv_at hl 1 rfl) ?_
    refine z_iconst hx hb dX5_begins_13 ?_
    refine z_isub hx hb dX5_begins_14 ?_
    refine lv_iload_n hx hb dX5_begins_15 rfl (lv_at hl 2 rfl) ?_
    refine lv_iload_n hx hb dX5_begins_16 rfl (lv_at hl 3 rfl) ?_
    refine z_callV (q0 := 0) (G := G) (As := [.int (zI ((x - 1))), .int (zI (y)), .int (zI (k))]) (rest := [.int (zI (((PPf Y w (w * h)) (k * (w * h) + (x + w * y)))))]) hx hb hml hown hT hK (c_X5_byteAt l G md ma mb mc mt m1 m2 m3 m4 m5 m6 m7 th w h cnt most rch tl nc M Y C T CA CB CN CG CS Z K ((x - 1)) (y) (k) hm (by omega) (by omega) (by omega)) kc_X5_87 ⟨Nat.le_of_ble_eq_true rfl, Nat.le_of_ble_eq_true rfl⟩ ⟨rfl, rfl⟩ ⟨Nat.zero_le _, Nat.zero_le _⟩ hP rfl rfl rfl rfl hl.1 rfl (Nat.le_of_ble_eq_true rfl) dX5_begins_17 ?_
    refine z_top (((PPf Y w (w * h)) (k * (w * h) + (x + w * y - 1)))) (by rw [show x - 1 + w * y = x + w * y - 1 by omega]) ?_
    refine z_icmp_eq (tgt := 27) hx hb dX5_begins_20 (by decide) (by omega) (by omega) (fun h20 => ?_) (fun h20 => ?_)
    · skip
      refine z_iconst hx hb dX5_begins_27 ?_
      exact z_zret hx hb hr hlocks (by first | exact Or.inl rfl | exact Or.inr rfl) (by refine bI_cases (fun h9 => ?_) (fun h9 => ?_) <;> first | rfl | (exfalso; simp only [stR, Bool.and_eq_true, Bool.and_eq_false_iff, Bool.or_eq_true, Bool.or_eq_false_iff, decide_eq_true_eq, decide_eq_false_iff_not] at h9; omega)) dX5_begins_28
    · skip
      refine z_iconst hx hb dX5_begins_23 ?_
      refine z_goto (tgt := 28) hx hb dX5_begins_24 (by decide) ?_
      exact z_zret hx hb hr hlocks (by first | exact Or.inl rfl | exact Or.inr rfl) (by refine bI_cases (fun h9 => ?_) (fun h9 => ?_) <;> first | rfl | (exfalso; simp only [stR, Bool.and_eq_true, Bool.and_eq_false_iff, Bool.or_eq_true, Bool.or_eq_false_iff, decide_eq_true_eq, decide_eq_false_iff_not] at h9; omega)) dX5_begins_28

set_option maxHeartbeats 4000000 in
set_option maxRecDepth 100000 in
theorem c_X5_runsOf (l : Launch) (G : zG) (md ma mb mc mt m1 m2 m3 m4 m5 m6 m7 : Nat) (th w h cnt most rch tl nc : Int) (M Y C T CA CB CN CG CS Z K : Int → Int) (k : Int) (hm : mdOK w h cnt most rch tl nc M Y C T CN CG CS K) (hk : 0 ≤ k ∧ k < 8) : zRd l yX5_runsOf cX5_runsOf 5 (some .int) { frames := 2, cells := 0, slots := 0, locals := 46 } G [.ref md, .int (zI (k))] (mdL G md ma mb mc mt m1 m2 m3 m4 m5 m6 m7 th w h cnt most rch tl nc M Y C T CA CB CN CG CS Z K) (cntB (stR (PPf Y w (w * h)) (w * h) w k) (w * h).toNat) := by
  refine Met.ofW (cc := cX5_runsOf) (maxL := 5) (ret := (some .int)) (by decide) rfl ?_
  intro p e s m args below meth c s₁ B hml hv
  obtain ⟨rfl, hP, hK⟩ := hv
  have hx := B.exec
  have hb := B.bytes
  have hr := B.returns
  have hT : ∀ w ∈ TB, w.before _ s = true := fun w h => atoms_spec (ws := Cond.code yX5_runsOf cX5_runsOf 5 (some .int) :: TB) B.pre w (List.mem_cons_of_mem _ h)
  have hown : s.vm.findClass RX5 = some m.cls := findClass_of_methodNamed B.named
  have hlocks := B.notSynchronized
  have hl := lv_entry ([.ref md, .int (zI (k))]) (n := 5) (Nat.le_of_ble_eq_true rfl)
  rw [lg_entry_eq]
  generalize (lg_sl ([.ref md, .int (zI (k))]) ++ List.replicate (5 - (lg_sl ([.ref md, .int (zI (k))])).length) Slot.unset).toArray = ls at hl ⊢
  have hl : lv_has ls 5 [(0, .ref md), (1, .int (zI (k)))] := hl
  obtain ⟨hw, hh, hcnt, hmost, hrch, hM, hY, hC, hTb, hT0, hT5, htl, hnc, hcl, hKb⟩ := id hm
  have hpt := md_pts hm
  have hPb : ∀ j, 0 ≤ PPf Y w (w * h) j ∧ PPf Y w (w * h) j ≤ 255 := fun j => hY _
  refine z_iconst hx hb dX5_runsOf_0 ?_
  refine z_top (cntB (stR (PPf Y w (w * h)) (w * h) w k) (w * 0).toNat) (by rw [Int.mul_zero]; rfl) ?_
  refine lv_istore_n (lv' := [(2, .int (zI (cntB (stR (PPf Y w (w * h)) (w * h) w k) (w * 0).toNat))), (0, .ref md), (1, .int (zI (k)))]) hx hb dX5_runsOf_1 rfl hl (by decide) rfl (fun ls hl => ?_)
  refine z_iconst hx hb dX5_runsOf_2 ?_
  refine lv_istore_n (lv' := [(3, .int (zI (0))), (2, .int (zI (cntB (stR (PPf Y w (w * h)) (w * h) w k) (w * 0).toNat))), (0, .ref md), (1, .int (zI (k)))]) hx hb dX5_runsOf_3 rfl hl (by decide) rfl (fun ls hl => ?_)
  refine z_loop (σ := Int × Array Slot) (fun zq => F0 m 4 (zq.2) []) (fun zq => (0 ≤ zq.1 ∧ zq.1 ≤ h) ∧ lv_has (zq.2) 5 [(0, .ref md), (1, .int (zI (k))), (2, .int (zI (cntB (stR (PPf Y w (w * h)) (w * h) w k) (w * zq.1).toNat))), (3, .int (zI (zq.1)))]) (fun zq => (h - zq.1).toNat) ?_ (0, ls) ⟨by refine ⟨?_, ?_⟩ <;> omega, lv_sub hl [2, 3, 1, 0] rfl⟩
  intro zq hq ih
  obtain ⟨y, ls⟩ := zq
  obtain ⟨hI, hl⟩ := hq
  try dsimp only at hI hl ih ⊢
  have ih4 := ih
  refine lv_iload_n hx hb dX5_runsOf_4 rfl (lv_at hl 3 rfl) ?_
  refine lv_aload_n hx hb dX5_runsOf_5 rfl (lv_at hl 0 rfl) ?_
  refine gf_X5_59 hx hb hT hown hK hP 0 rfl rfl dX5_runsOf_6 ?_
  refine z_icmp_ge (tgt := 55) hx hb dX5_runsOf_9 (by decide) (by omega) (by omega) (fun h9 => ?_) (fun h9 => ?_)
  · skip
    refine lv_iload_n hx hb dX5_runsOf_55 rfl (lv_at hl 2 rfl) ?_
    exact z_iret hx hb hr hlocks (by have hkc : y = h := (by omega); rw [hkc]) dX5_runsOf_56
  · skip
    refine z_iconst hx hb dX5_runsOf_12 ?_
    refine lv_istore (lv' := [(4, .int (zI (0))), (0, .ref md), (1, .int (zI (k))), (2, .int (zI (cntB (stR (PPf Y w (w * h)) (w * h) w k) (w * y).toNat))), (3, .int (zI (y)))]) hx hb dX5_runsOf_13 hl (by decide) rfl (fun ls hl => ?_)
    rw [show w * y = 0 + w * y by omega] at hl
    refine z_loop (σ := Int × Array Slot) (fun zq => F0 m 15 (zq.2) []) (fun zq => (0 ≤ zq.1 ∧ zq.1 ≤ w) ∧ lv_has (zq.2) 5 [(0, .ref md), (1, .int (zI (k))), (2, .int (zI (cntB (stR (PPf Y w (w * h)) (w * h) w k) (zq.1 + w * y).toNat))), (3, .int (zI (y))), (4, .int (zI (zq.1)))]) (fun zq => (w - zq.1).toNat) ?_ (0, ls) ⟨by refine ⟨?_, ?_⟩ <;> omega, lv_sub hl [1, 2, 3, 4, 0] rfl⟩
    intro zq hq ih
    obtain ⟨x, ls⟩ := zq
    obtain ⟨hI1, hl⟩ := hq
    try dsimp only at hI1 hl ih ⊢
    have ih15 := ih
    refine lv_iload hx hb dX5_runsOf_15 (lv_at hl 4 rfl) ?_
    refine lv_aload_n hx hb dX5_runsOf_17 rfl (lv_at hl 0 rfl) ?_
    refine gf_X5_56 hx hb hT hown hK hP 0 rfl rfl dX5_runsOf_18 ?_
    refine z_icmp_ge (tgt := 49) hx hb dX5_runsOf_21 (by decide) (by omega) (by omega) (fun h21 => ?_) (fun h21 => ?_)
    · skip
      refine lv_iinc (v := zI (y + (1))) (lv' := [(3, .int (zI (y + (1)))), (0, .ref md), (1, .int (zI (k))), (2, .int (zI (cntB (stR (PPf Y w (w * h)) (w * h) w k) (x + w * y).toNat))), (4, .int (zI (x)))]) hx hb dX5_runsOf_49 hl (k := 3) rfl (zI_add _ _) (by decide) rfl (fun ls hl => ?_)
      refine z_goto (tgt := 4) hx hb dX5_runsOf_52 (by decide) ?_
      have hmu := Int.mul_add w y 1
      rw [show x + w * y = w * (y + 1) by omega] at hl
      exact ih4 (y + 1, ls) ⟨by refine ⟨?_, ?_⟩ <;> omega, lv_sub hl [1, 2, 3, 0] rfl⟩ (by omega)
    · skip
      have hpc := pt_b (w := w) (h := h) (x := x) (y := y) (by omega) (by omega)
      have hc9 := cntB_b (stR (PPf Y w (w * h)) (w * h) w k) (x + w * y).toNat
      have hs9 := bI_01 (stR (PPf Y w (w * h)) (w * h) w k (x + w * y))
      have hcs := cntB_s (stR (PPf Y w (w * h)) (w * h) w k) (k := x + w * y) (by omega)
      refine lv_iload_n hx hb dX5_runsOf_24 rfl (lv_at hl 2 rfl) ?_
      refine lv_aload_n hx hb dX5_runsOf_25 rfl (lv_at hl 0 rfl) ?_
      refine lv_iload hx hb dX5_runsOf_26 (lv_at hl 4 rfl) ?_
      refine lv_iload_n hx hb dX5_runsOf_28 rfl (lv_at hl 3 rfl) ?_
      refine lv_iload_n hx hb dX5_runsOf_29 rfl (lv_at hl 1 rfl) ?_
      refine z_callV (q0 := 0) (G := G) (As := [.int (zI (x)), .int (zI (y)), .int (zI (k))]) (rest := [.int (zI (cntB (stR (PPf Y w (w * h)) (w * h) w k) (x + w * y).toNat))]) hx hb hml hown hT hK (c_X5_begins l G md ma mb mc mt m1 m2 m3 m4 m5 m6 m7 th w h cnt most rch tl nc M Y C T CA CB CN CG CS Z K (x) (y) (k) hm (by omega) (by omega) (by omega)) kc_X5_142 ⟨Nat.le_of_ble_eq_true rfl, Nat.le_of_ble_eq_true rfl⟩ ⟨rfl, rfl⟩ ⟨Nat.zero_le _, Nat.zero_le _⟩ hP rfl rfl rfl rfl hl.1 rfl (Nat.le_of_ble_eq_true rfl) dX5_runsOf_30 ?_
      refine z_if_eq (tgt := 40) hx hb dX5_runsOf_33 (by decide) (by omega) (fun h33 => ?_) (fun h33 => ?_)
      · skip
        refine z_iconst hx hb dX5_runsOf_40 ?_
        refine z_iadd hx hb dX5_runsOf_41 ?_
        refine z_top (cntB (stR (PPf Y w (w * h)) (w * h) w k) (x + w * y + 1).toNat) (by omega) ?_
        refine lv_istore_n (lv' := [(2, .int (zI (cntB (stR (PPf Y w (w * h)) (w * h) w k) (x + w * y + 1).toNat))), (0, .ref md), (1, .int (zI (k))), (3, .int (zI (y))), (4, .int (zI (x)))]) hx hb dX5_runsOf_42 rfl hl (by decide) rfl (fun ls hl => ?_)
        refine lv_iinc (v := zI (x + (1))) (lv' := [(4, .int (zI (x + (1)))), (2, .int (zI (cntB (stR (PPf Y w (w * h)) (w * h) w k) (x + w * y + 1).toNat))), (0, .ref md), (1, .int (zI (k))), (3, .int (zI (y)))]) hx hb dX5_runsOf_43 hl (k := 4) rfl (zI_add _ _) (by decide) rfl (fun ls hl => ?_)
        refine z_goto (tgt := 15) hx hb dX5_runsOf_46 (by decide) ?_
        rw [show x + w * y + 1 = x + 1 + w * y by omega] at hl
        exact ih15 (x + 1, ls) ⟨by refine ⟨?_, ?_⟩ <;> omega, lv_sub hl [2, 3, 1, 4, 0] rfl⟩ (by omega)
      · skip
        refine z_iconst hx hb dX5_runsOf_36 ?_
        refine z_goto (tgt := 41) hx hb dX5_runsOf_37 (by decide) ?_
        refine z_iadd hx hb dX5_runsOf_41 ?_
        refine z_top (cntB (stR (PPf Y w (w * h)) (w * h) w k) (x + w * y + 1).toNat) (by omega) ?_
        refine lv_istore_n (lv' := [(2, .int (zI (cntB (stR (PPf Y w (w * h)) (w * h) w k) (x + w * y + 1).toNat))), (0, .ref md), (1, .int (zI (k))), (3, .int (zI (y))), (4, .int (zI (x)))]) hx hb dX5_runsOf_42 rfl hl (by decide) rfl (fun ls hl => ?_)
        refine lv_iinc (v := zI (x + (1))) (lv' := [(4, .int (zI (x + (1)))), (2, .int (zI (cntB (stR (PPf Y w (w * h)) (w * h) w k) (x + w * y + 1).toNat))), (0, .ref md), (1, .int (zI (k))), (3, .int (zI (y)))]) hx hb dX5_runsOf_43 hl (k := 4) rfl (zI_add _ _) (by decide) rfl (fun ls hl => ?_)
        refine z_goto (tgt := 15) hx hb dX5_runsOf_46 (by decide) ?_
        rw [show x + w * y + 1 = x + 1 + w * y by omega] at hl
        exact ih15 (x + 1, ls) ⟨by refine ⟨?_, ?_⟩ <;> omega, lv_sub hl [2, 3, 1, 4, 0] rfl⟩ (by omega)
end
section
/-! ===== methods that write: their start and end, calls of them, loops in which the heap changes ===== -/
abbrev zPw (G : zG) (av : List Value) (ws : va_W) (sz : Nat) : Array Value → State → Prop := va_Pc av (fun U => U.heap.size = sz ∧ zP G ws U.heap ∧ zK G U ∧ va_D (fun _ => True) ws)
theorem zPw_blind (G : zG) (av : List Value) (ws : va_W) (sz : Nat) : FrameBlind (zPw G av ws sz) := fun a U g mk q => by
  obtain ⟨q0, q1, qP, qK, qD⟩ := q
  exact ⟨q0, q1, qP, va_K.moved (u := U) (U := U.calling g mk a) (Vm.Alike.refl U.vm) qK, qD⟩
abbrev zB (G : zG) (A : Nat → Prop) {S : Type} (ws2 : S → va_W) : S → State → Prop := fun u t => zP G (ws2 u) t.heap ∧ zK G t ∧ va_D A (ws2 u)
abbrev zWi (l : Launch) (y : MethodName) (bytes : ByteArray) (maxL : Nat) (ret : Option FieldType) (rm : Room) (G : zG) (av : List Value) (ws : va_W) {S : Type} (v : S → Int) (ok : S → Prop) (ws2 : S → va_W) : Prop :=
  ∀ sz : Nat, Met l y (Cond.code y bytes maxL ret :: TB) rm (zPw G av ws sz) (va_Qi (fun r u => r = zI (v u) ∧ ok u) (zB G (va_A ws sz) ws2) (va_A ws sz)) rm.cells rm.slots (va_A ws sz)
abbrev zWv (l : Launch) (y : MethodName) (bytes : ByteArray) (maxL : Nat) (rm : Room) (G : zG) (av : List Value) (ws : va_W) {S : Type} (ok : S → Prop) (ws2 : S → va_W) : Prop :=
  ∀ sz : Nat, Met l y (Cond.code y bytes maxL none :: TB) rm (zPw G av ws sz) (va_Qv (fun u => ok u) (zB G (va_A ws sz) ws2) (va_A ws sz)) rm.cells rm.slots (va_A ws sz)
theorem zP_left {D : va_G} {cl : List vw_C} {a b : va_W} {H : Heap} (h : va_P D cl (a ++ b) H) : va_P D cl a H := fun k q hk => h k q (by
  have h1 : k < a.length := (List.getElem?_eq_some_iff.mp hk).1
  rw [List.getElem?_append_left h1]; exact hk)
theorem zD_left {A : Nat → Prop} {a b : va_W} (h : va_D A (a ++ b)) : va_D A a :=
  ⟨fun i j p q hi hj e => h.1 i j p q (by rw [List.getElem?_append_left (List.getElem?_eq_some_iff.mp hi).1]; exact hi) (by rw [List.getElem?_append_left (List.getElem?_eq_some_iff.mp hj).1]; exact hj) e,
   fun k q hk => h.2 k q (by rw [List.getElem?_append_left (List.getElem?_eq_some_iff.mp hk).1]; exact hk)⟩
theorem fm_map {X wc : va_W} : ∀ (is : List Nat) (wc : va_W), is.map (fun i => X[i]?) = wc.map some → is.filterMap (fun i => X[i]?) = wc := by
  intro is
  induction is with
  | nil => intro wc h; cases wc with
    | nil => rfl
    | cons a b => simp at h
  | cons i r ih => intro wc h; cases wc with
    | nil => simp at h
    | cons a b =>
      simp only [List.map_cons, List.cons.injEq] at h
      rw [List.filterMap_cons_some h.1, ih b h.2]
section ZW
variable {p : Program} {l : Launch} {e : Env} {R : Room} {s : State} {m : MethodId} {args : Array Value} {below : List Frame} {meth : Method} {c : Code} {H : Heap} {locs : List Loc} {cells slots : Nat} {Q : State → Prop} {cc : ByteArray} {pc nL : Nat} {ls : Array Slot} {rest st0 : List Value} {A0 : Nat → Prop} {H0 : Heap} {G : zG} {X wc wr pl : va_W}
theorem kc_G {own C : String} {index maxL n : Nat} {y : MethodName} {bytes : ByteArray} {ret : Option FieldType} (kc : kcV own index C y bytes maxL ret n) : GoodIn TB (wsV own index C y (Cond.code y bytes maxL ret :: TB)) := by
  obtain ⟨k1, k2, k3, k4, k5, k6, k7, k8, k9⟩ := kc
  intro w hw
  have h1 : w ∈ TB := by
    rcases List.mem_append.mp hw with h | h
    · simp only [List.mem_cons, List.not_mem_nil, or_false] at h
      rcases h with rfl | rfl | rfl | rfl <;> assumption
    · exact (List.mem_cons.mp h).elim (fun q => by rw [q]; exact k1) id
  exact ⟨h1, TB_good w h1⟩
theorem z_wVi {y : MethodName} {bytes : ByteArray} {maxL index n ci q0 b : Nat} {ret : Option FieldType} {own C : String} {rm : Room} {As : List Value} {fs : List Value} {r : vw_C} {S : Type} {v : S → Int} {ok : S → Prop} {ws2 : S → va_W} (hx : p.tables.exec = Jvm.exec) (hb : c.code = cc) (hml : c.maxLocals = nL) (hown : s.vm.findClass own = some m.cls) (hT : ∀ w ∈ TB, w.before args s = true) (hK : zK G s)
    (hM : zWi l y bytes maxL ret rm G (.ref b :: As) wc v ok ws2) (kc : kcV own index C y bytes maxL ret n) (hR : rm.frames + 1 ≤ R.frames ∧ 8 + (maxL + 11) + rm.locals ≤ R.locals) (hcell : cells + rm.cells ≤ R.cells ∧ slots + rm.slots ≤ R.slots) (hP : zP G (X ++ pl) H) (hD : va_D A0 (X ++ pl)) (hS : va_S A0 H0 H locs) (hA : ∀ q, H0.size ≤ q → A0 q) (isC isR : List Nat) (hC : isC.map (fun i => X[i]?) = wc.map some) (hRr : isR.map (fun i => X[i]?) = wr.map some) (hnC : va_nd isC = true) (hnR : va_nd isR = true) (hdis : ∀ i ∈ isR, i ∉ isC) (he : wc[q0]? = some (b, .inr (ci, fs))) (hc : vwCl[ci]? = some r) (hC' : r.1 = C) (hn : As.length = n) (hls : ls.size = nL) (hst : st0 = As.reverse ++ .ref b :: rest) (hrest : (rest.map fun v => v.category).sum ≤ 8) (hd : decode cc pc = .ok (.invokevirtual index, 3))
    (k : ∀ (u : S) (H : Heap) (locs : List Loc), ok u → zP G ((wr ++ ws2 u) ++ pl) H → va_D A0 ((wr ++ ws2 u) ++ pl) → va_S A0 H0 H locs → W p l e R s m args below meth c H locs (cells + rm.cells) (slots + rm.slots) Q (F0 m (pc + 3) ls (.int (zI (v u)) :: rest))) : W p l e R s m args below meth c H locs cells slots Q (F0 m pc ls st0) := by
  subst hC'
  have hG := kc_G kc
  obtain ⟨k1, k2, k3, k4, k5, k6, k7, k8, k9⟩ := kc
  have hDx := zD_left hD
  have hPc : zP G wc H := (zP_left hP).sub isC (fm_map (wc := wc) isC wc hC)
  have hDc := hDx.sub isC hnC hC
  have hFc := va_free hDx hS hA isC hC
  refine va_calli (va_runV (As := As) (rest := rest) (g := F0 m pc ls st0) ⟨hx, hb, hml, hown, hT⟩ (hM H.size) (cwV n hT hG rfl rfl rfl ⟨k6, k7, k8, k9⟩ hR) ⟨zPw_blind G _ _ _, va_recv hK hPc hc he, fun U hU hW => ⟨rfl, by rw [hU], by rw [hU]; exact hPc, va_K.moved hW.alike hK, hDc.weaken (fun _ _ _ _ => trivial)⟩⟩ rfl hn hls hst (lv_room hrest) hd hcell) hS (fun q _ h => hFc q h) hFc (fun r u t H1 locs1 ht hvm hw hB hz1 hk1 hS1 => ?_)
  obtain ⟨hP1, hK1, hD1⟩ := hB
  rw [ht] at hP1
  obtain ⟨hP2, hD2⟩ := va_joinQ hP hD isC isR hC hRr hnR hdis hk1 hFc hP1 hD1
  rw [hw.1]
  exact k u H1 locs1 hw.2 hP2 hD2 hS1
theorem z_wVv {y : MethodName} {bytes : ByteArray} {maxL index n ci q0 b : Nat} {own C : String} {rm : Room} {As : List Value} {fs : List Value} {r : vw_C} {S : Type} {ok : S → Prop} {ws2 : S → va_W} (hx : p.tables.exec = Jvm.exec) (hb : c.code = cc) (hml : c.maxLocals = nL) (hown : s.vm.findClass own = some m.cls) (hT : ∀ w ∈ TB, w.before args s = true) (hK : zK G s)
    (hM : zWv l y bytes maxL rm G (.ref b :: As) wc ok ws2) (kc : kcV own index C y bytes maxL none n) (hR : rm.frames + 1 ≤ R.frames ∧ 8 + (maxL + 11) + rm.locals ≤ R.locals) (hcell : cells + rm.cells ≤ R.cells ∧ slots + rm.slots ≤ R.slots) (hP : zP G (X ++ pl) H) (hD : va_D A0 (X ++ pl)) (hS : va_S A0 H0 H locs) (hA : ∀ q, H0.size ≤ q → A0 q) (isC isR : List Nat) (hC : isC.map (fun i => X[i]?) = wc.map some) (hRr : isR.map (fun i => X[i]?) = wr.map some) (hnC : va_nd isC = true) (hnR : va_nd isR = true) (hdis : ∀ i ∈ isR, i ∉ isC) (he : wc[q0]? = some (b, .inr (ci, fs))) (hc : vwCl[ci]? = some r) (hC' : r.1 = C) (hn : As.length = n) (hls : ls.size = nL) (hst : st0 = As.reverse ++ .ref b :: rest) (hrest : (rest.map fun v => v.category).sum ≤ 8) (hd : decode cc pc = .ok (.invokevirtual index, 3))
    (k : ∀ (u : S) (H : Heap) (locs : List Loc), ok u → zP G ((wr ++ ws2 u) ++ pl) H → va_D A0 ((wr ++ ws2 u) ++ pl) → va_S A0 H0 H locs → W p l e R s m args below meth c H locs (cells + rm.cells) (slots + rm.slots) Q (F0 m (pc + 3) ls rest)) : W p l e R s m args below meth c H locs cells slots Q (F0 m pc ls st0) := by
  subst hC'
  have hG := kc_G kc
  obtain ⟨k1, k2, k3, k4, k5, k6, k7, k8, k9⟩ := kc
  have hDx := zD_left hD
  have hPc : zP G wc H := (zP_left hP).sub isC (fm_map (wc := wc) isC wc hC)
  have hDc := hDx.sub isC hnC hC
  have hFc := va_free hDx hS hA isC hC
  refine va_callv (va_runV (As := As) (rest := rest) (g := F0 m pc ls st0) ⟨hx, hb, hml, hown, hT⟩ (hM H.size) (cwV n hT hG rfl rfl rfl ⟨k6, k7, k8, k9⟩ hR) ⟨zPw_blind G _ _ _, va_recv hK hPc hc he, fun U hU hW => ⟨rfl, by rw [hU], by rw [hU]; exact hPc, va_K.moved hW.alike hK, hDc.weaken (fun _ _ _ _ => trivial)⟩⟩ rfl hn hls hst (lv_room hrest) hd hcell) hS (fun q _ h => hFc q h) hFc (fun u t H1 locs1 ht hvm hw hB hz1 hk1 hS1 => ?_)
  obtain ⟨hP1, hK1, hD1⟩ := hB
  rw [ht] at hP1
  obtain ⟨hP2, hD2⟩ := va_joinQ hP hD isC isR hC hRr hnR hdis hk1 hFc hP1 hD1
  exact k u H1 locs1 hw hP2 hD2 hS1
theorem z_wI {y : MethodName} {bytes : ByteArray} {maxL index n b : Nat} {own : String} {rm : Room} {As : List Value} {S : Type} {ok : S → Prop} {ws2 : S → va_W} (hx : p.tables.exec = Jvm.exec) (hb : c.code = cc) (hml : c.maxLocals = nL) (hown : s.vm.findClass own = some m.cls) (hT : ∀ w ∈ TB, w.before args s = true) (hK : zK G s)
    (hM : zWv l y bytes maxL rm G (.ref b :: As) wc ok ws2) (kc : kcI own index y bytes maxL n) (hR : rm.frames + 1 ≤ R.frames ∧ 8 + (maxL + 11) + rm.locals ≤ R.locals) (hcell : cells + rm.cells ≤ R.cells ∧ slots + rm.slots ≤ R.slots) (hP : zP G (X ++ pl) H) (hD : va_D A0 (X ++ pl)) (hS : va_S A0 H0 H locs) (hA : ∀ q, H0.size ≤ q → A0 q) (isC isR : List Nat) (hC : isC.map (fun i => X[i]?) = wc.map some) (hRr : isR.map (fun i => X[i]?) = wr.map some) (hnC : va_nd isC = true) (hnR : va_nd isR = true) (hdis : ∀ i ∈ isR, i ∉ isC) (hn : As.length = n) (hls : ls.size = nL) (hst : st0 = As.reverse ++ .ref b :: rest) (hrest : (rest.map fun v => v.category).sum ≤ 8) (hd : decode cc pc = .ok (.invokespecial index, 3))
    (k : ∀ (u : S) (H : Heap) (locs : List Loc), ok u → zP G ((wr ++ ws2 u) ++ pl) H → va_D A0 ((wr ++ ws2 u) ++ pl) → va_S A0 H0 H locs → W p l e R s m args below meth c H locs (cells + rm.cells) (slots + rm.slots) Q (F0 m (pc + 3) ls rest)) : W p l e R s m args below meth c H locs cells slots Q (F0 m pc ls st0) := by
  obtain ⟨k1, k2, k3, k5, k6, k7, k8, k9⟩ := kc
  have hDx := zD_left hD
  have hPc : zP G wc H := (zP_left hP).sub isC (fm_map (wc := wc) isC wc hC)
  have hDc := hDx.sub isC hnC hC
  have hFc := va_free hDx hS hA isC hC
  refine va_callv (va_runI (As := As) (rest := rest) (g := F0 m pc ls st0) ⟨hx, hb, hml, hown, hT⟩ (hM H.size) ⟨callB_of n hT (TB_self k1) rfl rfl rfl (hT _ k5) (hT _ k2) ⟨k7, k8, k9⟩ hR, k6, hT _ k3⟩ ⟨zPw_blind G _ _ _, fun U hU hW => ⟨rfl, by rw [hU], by rw [hU]; exact hPc, va_K.moved hW.alike hK, hDc.weaken (fun _ _ _ _ => trivial)⟩⟩ rfl hn hls hst (lv_room hrest) hd hcell) hS (fun q _ h => hFc q h) hFc (fun u t H1 locs1 ht hvm hw hB hz1 hk1 hS1 => ?_)
  obtain ⟨hP1, hK1, hD1⟩ := hB
  rw [ht] at hP1
  obtain ⟨hP2, hD2⟩ := va_joinQ hP hD isC isR hC hRr hnR hdis hk1 hFc hP1 hD1
  exact k u H1 locs1 hw hP2 hD2 hS1
theorem z_wri {A : Nat → Prop} {S : Type} {v : S → Int} {ok : S → Prop} {ws2 : S → va_W} {val : Int} (u : S) (hx : p.tables.exec = Jvm.exec) (hb : c.code = cc) (hr : meth.sig.returnType = some .int) (hlocks : meth.locks = false) (hK : zK G s) (hP : zP G (ws2 u) H) (hD : va_D A (ws2 u)) (hS : va_S A s.heap H locs) (hok : ok u) (hv : val = v u) (hd : decode cc pc = .ok (.ireturn, 1)) : W p l e R s m args below meth c H locs cells slots (MQ below (va_Qi (fun r u => r = zI (v u) ∧ ok u) (zB G A ws2) A) args s cells slots A) (F0 m pc ls [.int (zI val)]) :=
  W.iret hx hb hr (fun t ht hW => ⟨⟨_, u, rfl, ⟨by rw [hv], hok⟩, by rw [ht]; exact hP, va_K.moved hW.alike hK, hD⟩, hS.F ht⟩) hS.2.2 hd hlocks
theorem z_wrv {A : Nat → Prop} {S : Type} {ok : S → Prop} {ws2 : S → va_W} (u : S) (hx : p.tables.exec = Jvm.exec) (hb : c.code = cc) (hr : meth.sig.returnType = none) (hlocks : meth.locks = false) (hK : zK G s) (hP : zP G (ws2 u) H) (hD : va_D A (ws2 u)) (hS : va_S A s.heap H locs) (hok : ok u) (hd : decode cc pc = .ok (.return_, 1)) : W p l e R s m args below meth c H locs cells slots (MQ below (va_Qv (fun u => ok u) (zB G A ws2) A) args s cells slots A) (F0 m pc ls []) :=
  W.vret hx hb hr (fun t ht hW => ⟨⟨u, rfl, hok, by rw [ht]; exact hP, va_K.moved hW.alike hK, hD⟩, hS.F ht⟩) hS.2.2 hd hlocks
theorem z_cutH {σ : Type} {A : Nat → Prop} {g : JFrame} (fr : σ → JFrame) (I : σ → Prop) (ws : σ → va_W) (hJ : ∀ a (H : Heap) (locs : List Loc), I a → zP G (ws a) H → va_D A (ws a) → va_S A H0 H locs → W p l e R s m args below meth c H locs cells slots Q (fr a)) (h : (∀ a (H : Heap) (locs : List Loc), I a → zP G (ws a) H → va_D A (ws a) → va_S A H0 H locs → W p l e R s m args below meth c H locs cells slots Q (fr a)) → W p l e R s m args below meth c H locs cells slots Q g) : W p l e R s m args below meth c H locs cells slots Q g := h hJ
theorem z_loopH {σ : Type} {A : Nat → Prop} (fr : σ → JFrame) (I : σ → Prop) (ws : σ → va_W) (μ : σ → Nat) (hs : ∀ a (H : Heap) (locs : List Loc), I a → zP G (ws a) H → va_D A (ws a) → va_S A H0 H locs → (∀ b (H : Heap) (locs : List Loc), I b → μ b < μ a → zP G (ws b) H → va_D A (ws b) → va_S A H0 H locs → W p l e R s m args below meth c H locs cells slots Q (fr b)) → W p l e R s m args below meth c H locs cells slots Q (fr a)) (a : σ) (h : I a) (hP : zP G (ws a) H) (hD : va_D A (ws a)) (hS : va_S A H0 H locs) : W p l e R s m args below meth c H locs cells slots Q (fr a) := by
  have key : ∀ n a (H : Heap) (locs : List Loc), I a → μ a < n → zP G (ws a) H → va_D A (ws a) → va_S A H0 H locs → W p l e R s m args below meth c H locs cells slots Q (fr a) := by
    intro n
    induction n with
    | zero => intro a _ _ _ h; exact absurd h (Nat.not_lt_zero _)
    | succ n ih => intro a H locs ha hn h1 h2 h3; exact hs a H locs ha h1 h2 h3 (fun b H locs hb hlt h1 h2 h3 => ih b H locs hb (by omega) h1 h2 h3)
  exact key (μ a + 1) a H locs h (Nat.lt_succ_self _) hP hD hS
/-- an array's contents matter within its length alone -/
theorem ia_eq {n a : Nat} {f g : Int → Int} (h : ∀ j : Int, 0 ≤ j → j < n → f j = g j) {H : Heap} (hP : va_at G.1 vwCl (ia G a n f) H) : va_at G.1 vwCl (ia G a n g) H := by
  have e1 : vp_cell G.2.1 (n, .inl (zA f)) = vp_cell G.2.1 (n, .inl (zA g)) := by
    have e2 : ∀ j : Nat, j < n → zA f j = zA g j := fun j hj => by unfold zA; rw [h j (by omega) (by omega)]
    have e3 : (fun j : Fin n => Value.int (zA f j.val)) = fun j : Fin n => Value.int (zA g j.val) := by funext j; rw [e2 j.val j.isLt]
    show arrV G.2.1 n (fun j => .int (zA f j)) = arrV G.2.1 n (fun j => .int (zA g j))
    unfold arrV; rw [e3]
  have h1 : H[a]? = some (vp_cell G.2.1 (n, .inl (zA f))) := hP
  show H[a]? = some (vp_cell G.2.1 (n, .inl (zA g)))
  rw [← e1]; exact h1
end ZW
end
