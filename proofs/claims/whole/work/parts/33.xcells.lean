/-! ===== the screens' cells ===== -/
abbrev cT : Type := Nat × Nat × Nat × Int × Int × Int × (Int → Int)
abbrev clC (G : zG) (c : cT) : va_W := clL G c.1 c.2.1 c.2.2.1 c.2.2.2.1 c.2.2.2.2.1 c.2.2.2.2.2.1 c.2.2.2.2.2.2
def clAll (G : zG) : List cT → va_W
  | [] => []
  | c :: r => clC G c ++ clAll G r
def Fof (cs : List cT) : Nat → Option Nat := fun k => (cs[k]?).map (fun c => c.1)
def cAt (cs : List cT) (k : Int) : cT := (cs[k.toNat]?).getD (0, 0, 0, 1, 1, 0, fun _ => 0)
def csOK (cs : List cT) : Prop := ∀ (k : Nat) (c : cT), cs[k]? = some c → clOK c.2.2.1 c.2.2.2.1 c.2.2.2.2.1 c.2.2.2.2.2.1 c.2.2.2.2.2.2
theorem clAll_app (G : zG) (a b : List cT) : clAll G (a ++ b) = clAll G a ++ clAll G b := by
  induction a with
  | nil => rfl
  | cons c r ih => show clC G c ++ clAll G (r ++ b) = (clC G c ++ clAll G r) ++ clAll G b; rw [ih, List.append_assoc]
theorem zP_right {D : va_G} {cl : List vw_C} {a b : va_W} {H : Heap} (h : va_P D cl (a ++ b) H) : va_P D cl b H := fun k q hk => h (a.length + k) q (by rw [List.getElem?_append_right (by omega), show a.length + k - a.length = k by omega]; exact hk)
theorem zA_left {a b : va_W} {sz q : Nat} (h : va_A a sz q) : va_A (a ++ b) sz q := by
  rcases h with ⟨k, e, h⟩ | h
  · exact Or.inl ⟨k, e, by rw [List.getElem?_append_left (List.getElem?_eq_some_iff.mp h).1]; exact h⟩
  · exact Or.inr h
theorem cl_get {G : zG} {H : Heap} {c : cT} : ∀ {cs : List cT} {k : Nat}, cs[k]? = some c → zP G (clAll G cs) H → zP G (clC G c) H := by
  intro cs
  induction cs with
  | nil => intro k h; cases k <;> cases h
  | cons c0 r ih =>
    intro k h hP
    cases k with
    | zero => cases h; exact zP_left hP
    | succ k => exact ih (k := k) h (zP_right hP)
theorem Fof_get {cs : List cT} {k : Int} {q : Nat} (h : Fof cs k.toNat = some q) : cs[k.toNat]? = some (cAt cs k) ∧ q = (cAt cs k).1 := by
  unfold Fof at h
  unfold cAt
  cases e : cs[k.toNat]? with
  | none => rw [e] at h; cases h
  | some c => rw [e] at h; exact ⟨rfl, (Option.some.inj h).symm⟩
theorem Fof_has {cs : List cT} {nx : Int} (hn : nx = (cs.length : Int)) {k : Int} (hk : 0 ≤ k ∧ k < nx) : ∃ q, Fof cs k.toNat = some q := by
  have h1 : k.toNat < cs.length := by omega
  exact ⟨(cs[k.toNat]).1, by unfold Fof; rw [List.getElem?_eq_getElem h1]; rfl⟩
abbrev zXr (l : Launch) (y : MethodName) (bytes : ByteArray) (maxL : Nat) (ret : Option FieldType) (rm : Room) (G : zG) (av : List Value) (ws : va_W) (post : Nat → Prop) (ex : String → Prop) : Prop :=
  ∀ sz : Nat, vx_Met l y (Cond.code y bytes maxL ret :: TB) rm (zPx G av ws sz) (va_Sr post (fun q => .ref q)) (zEx ex) rm.cells rm.slots (fun _ => False)
section ZU
variable {p : Program} {l : Launch} {e : Env} {R : Room} {s : State} {m : MethodId} {args : Array Value} {below : List Frame} {meth : Method} {c : Code} {H : Heap} {locs : List Loc} {cells slots : Nat} {Q : State → Prop} {cc : ByteArray} {pc nL : Nat} {ls : Array Slot} {rest st0 : List Value} {G : zG} {A : Nat → Prop}
theorem z_aldq (hx : p.tables.exec = Jvm.exec) (hb : c.code = cc) {ws : va_W} (hK : zK G s) (hP : zP G ws H) (q0 : Nat) {a n : Nat} {F : Nat → Option Nat} (he : ws[q0]? = some (aq G a n F)) {i : Int} (hi : 0 ≤ i ∧ i < n ∧ i ≤ 2147483647) {q : Nat} (hq : F i.toNat = some q) (hd : decode cc pc = .ok (.aaload, 1))
    (k : W p l e R s m args below meth c H locs cells slots Q (F0 m (pc + 1) ls (.ref q :: rest))) : W p l e R s m args below meth c H locs cells slots Q (F0 m pc ls (.int (zI i) :: .ref a :: rest)) :=
  va_aldq hx hb hK hP q0 1 he rfl (zI_in ⟨hi.1, hi.2.1⟩ hi.2.2) hd (by rw [zI_cl ⟨hi.1, hi.2.2⟩, hq]; exact k)
theorem z_tretr {post : Nat → Prop} {ex : String → Prop} {mc ms val : Nat} {C9 : String} (hx : p.tables.exec = Jvm.exec) (hb : c.code = cc) (hr : meth.sig.returnType = some (.object C9)) (hlocks : meth.locks = false) (hok : post val) (hd : decode cc pc = .ok (.areturn, 1)) (hc : cells ≤ mc) (hs : slots ≤ ms) : W p l e R s m args below meth c s.heap [] cells slots (vx_MQ below (va_Sr post (fun q => .ref q)) (zEx ex) args s mc ms (fun _ => False)) (F0 m pc ls [.ref val]) :=
  vx_ret (W.widen hc hs (W.aret hx hb hr (Or.inl ⟨_, rfl⟩) (Or.inr ⟨_, rfl⟩) (fun t ht _ => ⟨val, rfl, hok, ht⟩) (fun q h => nomatch h) hd hlocks))
theorem z_xr {Qc : Array Value → State → Outcome → State → Prop} {ex ex' : String → Prop} {free : Addr → Prop} {mc ms : Nat} {y : MethodName} {bytes : ByteArray} {maxL index n ci q0 b : Nat} {own C : String} {rm : Room} {As : List Value} {fs : List Value} {r : vw_C} {post : Nat → Prop} {wc : va_W} {ret : Option FieldType} (hx : p.tables.exec = Jvm.exec) (hb : c.code = cc) (hml : c.maxLocals = nL) (hown : s.vm.findClass own = some m.cls) (hT : ∀ w ∈ TB, w.before args s = true) (hK : zK G s) (htab : ∀ x ∈ c.exceptionTable.toList, False) (hlocks : meth.locks = false) (hX : zX A s s.heap)
    (hM : zXr l y bytes maxL ret rm G (.ref b :: As) wc post ex') (kc : kcV own index C y bytes maxL ret n) (hR : rm.frames + 1 ≤ R.frames ∧ 8 + (maxL + 11) + rm.locals ≤ R.locals) (hcell : cells + rm.cells ≤ R.cells ∧ slots + rm.slots ≤ R.slots) (hcm : cells + rm.cells ≤ mc ∧ slots + rm.slots ≤ ms) (hP : zP G wc s.heap) (hD : va_D (fun _ => True) wc) (hsub : ∀ q, va_A wc s.heap.size q → A q) (he : wc[q0]? = some (b, .inr (ci, fs))) (hc : vwCl[ci]? = some r) (hC' : r.1 = C) (hn : As.length = n) (hls : ls.size = nL) (hst : st0 = As.reverse ++ .ref b :: rest) (hrest : (rest.map fun v => v.category).sum ≤ 8) (hd : decode cc pc = .ok (.invokevirtual index, 3)) (hex : ∀ E, ex' E → ex E)
    (k : ∀ q, post q → W p l e R s m args below meth c s.heap [] (cells + rm.cells) (slots + rm.slots) (vx_MQ below Qc (zEx ex) args s mc ms free) (F0 m (pc + 3) ls (.ref q :: rest))) : W p l e R s m args below meth c s.heap [] cells slots (vx_MQ below Qc (zEx ex) args s mc ms free) (F0 m pc ls st0) := by
  subst hC'
  have hG := kc_G kc
  obtain ⟨k1, k2, k3, k4, k5, k6, k7, k8, k9⟩ := kc
  have hrun := vx_runV (As := As) (rest := rest) (g := F0 m pc ls st0) (H := s.heap) (locs := []) (cells := cells) (slots := slots) (below := below) (meth := meth) (e := e) ⟨hx, hb, hml, hown, hT⟩ (hM s.heap.size) (cwV (R := R) n hT hG rfl rfl rfl ⟨k6, k7, k8, k9⟩ hR) ⟨zPx_blind G _ _ _, va_recv hK hP hc he, fun U hU hW => ⟨rfl, by rw [hU], by rw [hU]; exact hP, va_K.moved hW.alike hK, hD, by rw [hU]; exact vx_Zq.moved hW.alike (hX.1.narrow hsub), by rw [hU]; exact vx_Zq.moved hW.alike (hX.2.1.narrow hsub), fun z hz => by obtain ⟨b9, hb9⟩ := hX.2.2.1 z hz; exact ⟨b9, vk_R.warm hW hb9⟩, zNg.warm hW hX.2.2.2⟩⟩ rfl hn hls hst (lv_room hrest) hd hcell
  intro T hT9 X
  rcases hrun T hT9 X with ⟨v, st₀, t, T', L, h0, X', hL, e1, e2, ⟨q, ho, hok, hh⟩, st⟩ | ⟨q, st₀, t, T', L, E, ce, h0, X', hL, e1, e2, ⟨u, -, hE, hF⟩, hce, hcv, hcl, st⟩
  · cases ho
    obtain ⟨t2, a1, b1⟩ := k q hok T' (by rw [e1, hh, h0]) (Stand.forget X' (fun q h => (hL q h).elim))
    exact ⟨t2, st t2 a1, b1⟩
  · have hpast : vx_W p l e R s m args below meth c T'.heap [] (cells + rm.cells) (slots + rm.slots) (vx_MQ below Qc (zEx ex) args s mc ms free) (F0 m pc ls rest) q := z_past hex hE htab hlocks (by rw [e1, ← h0]; exact hF.1) (fun z hz => by rw [e1, ← h0] at *; exact hF.2 z (by rw [h0]; exact hz) (fun f => f)) (fun z hz => nomatch hz) (by rw [e1]; exact hce) hcv hcl hcm.1 hcm.2
    obtain ⟨t2, a1, b1⟩ := hpast T' rfl (Stand.forget X' (fun q h => (hL q h).elim))
    exact ⟨t2, st.trans a1, b1⟩
end ZU

set_option maxHeartbeats 4000000 in
set_option maxRecDepth 100000 in
theorem c_X4_checkedCell (l : Launch) (hst : l.stackTraces = false) (G : zG) (xx pg ik mx co pa cv ca cb ar : Nat) (nx w h pts cnt most rch : Int) (M C P : Int → Int) (cc : Int) (L V : Int → Int) (F : Nat → Option Nat) (k : Int) (hp : pgOK w h pts cnt most rch M C P) (hvv : cvOK cc L V) (hnx : 0 ≤ nx ∧ nx ≤ 6) (hk : -2147483648 ≤ k ∧ k ≤ 2147483647) (hF : ∀ j, 0 ≤ j ∧ j < nx → ∃ q, F j.toNat = some q) : zXr l yX4_checkedCell cX4_checkedCell 3 (some (.object "SeparateScreens$Cell")) { frames := 7, cells := 1, slots := 6, locals := 95 } G [.ref xx, .int (zI (k))] (xL G xx pg ik mx co pa cv ca cb ar nx w h pts cnt most rch M C P cc L V F) (fun q => F k.toNat = some q ∧ 0 ≤ k ∧ k < nx) (fun E => E = "java/lang/ArrayIndexOutOfBoundsException" ∧ ¬ (0 ≤ k ∧ k < nx)) := by
  intro sz
  refine vx_ofW (cc := cX4_checkedCell) (maxL := 3) (ret := (some (.object "SeparateScreens$Cell"))) (by decide) rfl ?_
  intro p e s m args below meth c s₁ B hml htab hv
  obtain ⟨rfl, hsz, hP, hK, hD0, hX⟩ := hv
  have hx := B.exec
  have hb := B.bytes
  have hr := B.returns
  have hT : ∀ w ∈ TB, w.before _ s = true := fun w h => atoms_spec (ws := Cond.code yX4_checkedCell cX4_checkedCell 3 (some (.object "SeparateScreens$Cell")) :: TB) B.pre w (List.mem_cons_of_mem _ h)
  have hown : s.vm.findClass RX4 = some m.cls := findClass_of_methodNamed B.named
  have hlocks := B.notSynchronized
  subst hsz
  have hD := hD0.self (sz := s.heap.size)
  generalize hAe : va_A (xL G xx pg ik mx co pa cv ca cb ar nx w h pts cnt most rch M C P cc L V F) s.heap.size = A at hD hX ⊢
  have hA : ∀ q : Nat, s.heap.size ≤ q → A q := fun q h => by rw [← hAe]; exact Or.inr h
  have hS : va_S A s.heap s.heap [] := va_S.rf
  have hsub : ∀ q, va_A (xL G xx pg ik mx co pa cv ca cb ar nx w h pts cnt most rch M C P cc L V F) s.heap.size q → A q := fun q h => by rw [← hAe]; exact h
  have hP : zP G (xL G xx pg ik mx co pa cv ca cb ar nx w h pts cnt most rch M C P cc L V F) s.heap := hP
  have hD : va_D A (xL G xx pg ik mx co pa cv ca cb ar nx w h pts cnt most rch M C P cc L V F) := hD
  have hl := lv_entry ([.ref xx, .int (zI (k))]) (n := 3) (Nat.le_of_ble_eq_true rfl)
  rw [lg_entry_eq]
  generalize (lg_sl ([.ref xx, .int (zI (k))]) ++ List.replicate (3 - (lg_sl ([.ref xx, .int (zI (k))])).length) Slot.unset).toArray = ls at hl ⊢
  have hl : lv_has ls 3 [(0, .ref xx), (1, .int (zI (k)))] := hl
  obtain ⟨hw, hh, hpts, hcnt, hmost, hrch, hM, hC, hB⟩ := id hp
  have hpt := pgOK_pts hp
  obtain ⟨hcc, hL0, hLe, hLs, hLb, hVb⟩ := id hvv
  refine lv_iload_n hx hb dX4_checkedCell_0 rfl (lv_at hl 1 rfl) ?_
  refine z_if_lt (tgt := 12) hx hb dX4_checkedCell_1 (by decide) (by omega) (fun h1 => ?_) (fun h1 => ?_)
  · skip
    refine lv_null hx hb dX4_checkedCell_12 ?_
    refine z_goto (tgt := 22) hx hb dX4_checkedCell_13 (by decide) ?_
    refine lv_astore_nN (lv' := [(2, .null), (0, .ref xx), (1, .int (zI (k)))]) hx hb dX4_checkedCell_22 rfl hl (by decide) rfl (fun ls hl => ?_)
    refine lv_aload_nN hx hb dX4_checkedCell_23 rfl (lv_at hl 0 rfl) ?_
    refine lv_ifnonnullN hx hb dX4_checkedCell_24 ?_
    exact z_throw (text := "there is no such cell") hx hb hst hown hT hX kt_AIO (by decide +kernel) hml hl.1 htab hlocks dX4_checkedCell_27 dX4_checkedCell_30 dX4_checkedCell_31 dX4_checkedCell_33 dX4_checkedCell_36 (Nat.le_of_ble_eq_true rfl) (Nat.le_of_ble_eq_true rfl) ⟨Nat.le_of_ble_eq_true rfl, Nat.le_of_ble_eq_true rfl⟩ (Nat.le_of_ble_eq_true rfl) (Nat.le_of_ble_eq_true rfl) (⟨rfl, by omega⟩)
  · skip
    refine lv_iload_n hx hb dX4_checkedCell_4 rfl (lv_at hl 1 rfl) ?_
    refine lv_aload_n hx hb dX4_checkedCell_5 rfl (lv_at hl 0 rfl) ?_
    refine gf_X4_40 hx hb hT hown hK hP 0 rfl rfl dX4_checkedCell_6 ?_
    refine z_icmp_lt (tgt := 16) hx hb dX4_checkedCell_9 (by decide) (by omega) (by omega) (fun h9 => ?_) (fun h9 => ?_)
    · skip
      obtain ⟨qc, hqc⟩ := hF k (by omega)
      refine lv_aload_n hx hb dX4_checkedCell_16 rfl (lv_at hl 0 rfl) ?_
      refine gf_X4_36 hx hb hT hown hK hP 0 rfl rfl dX4_checkedCell_17 ?_
      refine lv_iload_n hx hb dX4_checkedCell_20 rfl (lv_at hl 1 rfl) ?_
      refine z_aldq hx hb hK hP 9 rfl (⟨by omega, by omega, by omega⟩) (hqc) dX4_checkedCell_21 ?_
      refine lv_astore_n (lv' := [(2, .ref qc), (0, .ref xx), (1, .int (zI (k)))]) hx hb dX4_checkedCell_22 rfl hl (by decide) rfl (fun ls hl => ?_)
      refine lv_aload_n hx hb dX4_checkedCell_23 rfl (lv_at hl 0 rfl) ?_
      refine lv_ifnonnull (tgt := 37) hx hb dX4_checkedCell_24 (by decide) ?_
      refine lv_aload_n hx hb dX4_checkedCell_37 rfl (lv_at hl 0 rfl) ?_
      exact z_tretr hx hb hr hlocks (⟨hqc, by omega⟩) dX4_checkedCell_38 (Nat.le_of_ble_eq_true rfl) (Nat.le_of_ble_eq_true rfl)
    · skip
      refine lv_null hx hb dX4_checkedCell_12 ?_
      refine z_goto (tgt := 22) hx hb dX4_checkedCell_13 (by decide) ?_
      refine lv_astore_nN (lv' := [(2, .null), (0, .ref xx), (1, .int (zI (k)))]) hx hb dX4_checkedCell_22 rfl hl (by decide) rfl (fun ls hl => ?_)
      refine lv_aload_nN hx hb dX4_checkedCell_23 rfl (lv_at hl 0 rfl) ?_
      refine lv_ifnonnullN hx hb dX4_checkedCell_24 ?_
      exact z_throw (text := "there is no such cell") hx hb hst hown hT hX kt_AIO (by decide +kernel) hml hl.1 htab hlocks dX4_checkedCell_27 dX4_checkedCell_30 dX4_checkedCell_31 dX4_checkedCell_33 dX4_checkedCell_36 (Nat.le_of_ble_eq_true rfl) (Nat.le_of_ble_eq_true rfl) ⟨Nat.le_of_ble_eq_true rfl, Nat.le_of_ble_eq_true rfl⟩ (Nat.le_of_ble_eq_true rfl) (Nat.le_of_ble_eq_true rfl) (⟨rfl, by omega⟩)

set_option maxHeartbeats 4000000 in
set_option maxRecDepth 100000 in
theorem c_X4_rank (l : Launch) (hst : l.stackTraces = false) (G : zG) (xx pg ik mx co pa cv ca cb ar : Nat) (nx w h pts cnt most rch : Int) (M C P : Int → Int) (cc : Int) (L V : Int → Int) (cs : List cT) (c9 i : Int) (hp : pgOK w h pts cnt most rch M C P) (hvv : cvOK cc L V) (hnx : 0 ≤ nx ∧ nx ≤ 6) (hcs : csOK cs) (hnl : nx = (cs.length : Int)) (hc9 : -2147483648 ≤ c9 ∧ c9 ≤ 2147483647) (hi : -2147483648 ≤ i ∧ i ≤ 2147483647) : zXi l yX4_rank cX4_rank 4 (some .int) { frames := 8, cells := 2, slots := 12, locals := 117 } G [.ref xx, .int (zI (c9)), .int (zI (i))] (xL G xx pg ik mx co pa cv ca cb ar nx w h pts cnt most rch M C P cc L V (Fof cs) ++ clAll G cs) (S := Unit) (fun u => if i = -1 then ((cAt cs c9).2.2.1 : Int) else (cAt cs c9).2.2.2.2.2.2 i) (fun u => cRan c9 i nx ((cAt cs c9).2.2.1 : Int) = 0) (fun u => xL G xx pg ik mx co pa cv ca cb ar nx w h pts cnt most rch M C P cc L V (Fof cs) ++ clAll G cs) (fun E => E = "java/lang/ArrayIndexOutOfBoundsException" ∧ cRan c9 i nx ((cAt cs c9).2.2.1 : Int) = 1) := by
  intro sz
  refine vx_ofW (cc := cX4_rank) (maxL := 4) (ret := (some .int)) (by decide) rfl ?_
  intro p e s m args below meth c s₁ B hml htab hv
  obtain ⟨rfl, hsz, hP, hK, hD0, hX⟩ := hv
  have hx := B.exec
  have hb := B.bytes
  have hr := B.returns
  have hT : ∀ w ∈ TB, w.before _ s = true := fun w h => atoms_spec (ws := Cond.code yX4_rank cX4_rank 4 (some .int) :: TB) B.pre w (List.mem_cons_of_mem _ h)
  have hown : s.vm.findClass RX4 = some m.cls := findClass_of_methodNamed B.named
  have hlocks := B.notSynchronized
  subst hsz
  have hD := hD0.self (sz := s.heap.size)
  generalize hAe : va_A (xL G xx pg ik mx co pa cv ca cb ar nx w h pts cnt most rch M C P cc L V (Fof cs) ++ clAll G cs) s.heap.size = A at hD hX ⊢
  have hA : ∀ q : Nat, s.heap.size ≤ q → A q := fun q h => by rw [← hAe]; exact Or.inr h
  have hS : va_S A s.heap s.heap [] := va_S.rf
  have hsub : ∀ q, va_A (xL G xx pg ik mx co pa cv ca cb ar nx w h pts cnt most rch M C P cc L V (Fof cs) ++ clAll G cs) s.heap.size q → A q := fun q h => by rw [← hAe]; exact h
  have hP : zP G (xL G xx pg ik mx co pa cv ca cb ar nx w h pts cnt most rch M C P cc L V (Fof cs) ++ clAll G cs) s.heap := hP
  have hD : va_D A (xL G xx pg ik mx co pa cv ca cb ar nx w h pts cnt most rch M C P cc L V (Fof cs) ++ clAll G cs) := hD
  have hl := lv_entry ([.ref xx, .int (zI (c9)), .int (zI (i))]) (n := 4) (Nat.le_of_ble_eq_true rfl)
  rw [lg_entry_eq]
  generalize (lg_sl ([.ref xx, .int (zI (c9)), .int (zI (i))]) ++ List.replicate (4 - (lg_sl ([.ref xx, .int (zI (c9)), .int (zI (i))])).length) Slot.unset).toArray = ls at hl ⊢
  have hl : lv_has ls 4 [(0, .ref xx), (1, .int (zI (c9))), (2, .int (zI (i)))] := hl
  obtain ⟨hw, hh, hpts, hcnt, hmost, hrch, hM, hC, hB⟩ := id hp
  have hpt := pgOK_pts hp
  obtain ⟨hcc, hL0, hLe, hLs, hLb, hVb⟩ := id hvv
  have hPx : zP G (xL G xx pg ik mx co pa cv ca cb ar nx w h pts cnt most rch M C P cc L V (Fof cs)) s.heap := zP_left hP
  have hD0x : va_D (fun _ => True) (xL G xx pg ik mx co pa cv ca cb ar nx w h pts cnt most rch M C P cc L V (Fof cs)) := zD_left hD0
  have hsubx : ∀ q, va_A (xL G xx pg ik mx co pa cv ca cb ar nx w h pts cnt most rch M C P cc L V (Fof cs)) s.heap.size q → A q := fun q h => hsub q (zA_left h)
  obtain ⟨ce, ra, n, dp, br, sl, K, hat⟩ : ∃ ce ra n dp br sl K, cAt cs c9 = (ce, ra, n, dp, br, sl, K) := ⟨_, _, _, _, _, _, _, rfl⟩
  refine lv_aload_n hx hb dX4_rank_0 rfl (lv_at hl 0 rfl) ?_
  refine lv_iload_n hx hb dX4_rank_1 rfl (lv_at hl 1 rfl) ?_
  refine z_xr (G := G) (q0 := 0) (As := [.int (zI (c9))]) (rest := []) hx hb hml hown hT hK htab hlocks hX (c_X4_checkedCell l hst G xx pg ik mx co pa cv ca cb ar nx w h pts cnt most rch M C P cc L V (Fof cs) (c9) hp hvv hnx (by omega) (fun j9 hj9 => Fof_has hnl hj9)) kc_X4_147 ⟨Nat.le_of_ble_eq_true rfl, Nat.le_of_ble_eq_true rfl⟩ ⟨Nat.le_of_ble_eq_true rfl, Nat.le_of_ble_eq_true rfl⟩ ⟨Nat.le_of_ble_eq_true rfl, Nat.le_of_ble_eq_true rfl⟩ hPx hD0x hsubx rfl rfl rfl rfl hl.1 rfl (Nat.le_of_ble_eq_true rfl) dX4_rank_2 (fun E9 h9 => ⟨h9.1, if_neg (fun h8 => h9.2 h8.1)⟩) (fun q9 ok2 => ?_)
  obtain ⟨hg1, hg2⟩ := Fof_get ok2.1
  rw [hat] at hg1 hg2
  have hq9 : ce = q9 := hg2.symm
  subst hq9
  have hcl := hcs _ _ hg1
  have hcl : clOK n dp br sl K := hcl
  obtain ⟨hdp, hbr, hsl, hn, hn2, hKb⟩ := id hcl
  have hP0 := hP
  have hP : zP G (xL G xx pg ik mx co pa cv ca cb ar nx w h pts cnt most rch M C P cc L V (Fof cs) ++ clL G ce ra n dp br sl K) s.heap := va_P.app hPx (cl_get hg1 (zP_right hP))
  refine lv_astore_n (lv' := [(3, .ref ce), (0, .ref xx), (1, .int (zI (c9))), (2, .int (zI (i)))]) hx hb dX4_rank_5 rfl hl (by decide) rfl (fun ls hl => ?_)
  refine lv_iload_n hx hb dX4_rank_6 rfl (lv_at hl 3 rfl) ?_
  refine z_iconst hx hb dX4_rank_7 ?_
  refine z_icmp_lt (tgt := 20) hx hb dX4_rank_8 (by decide) (by omega) (by omega) (fun h8 => ?_) (fun h8 => ?_)
  · skip
    exact z_throw (text := "there is no such point of the cell") hx hb hst hown hT hX kt_AIO (by decide +kernel) hml hl.1 htab hlocks dX4_rank_20 dX4_rank_23 dX4_rank_24 dX4_rank_26 dX4_rank_29 (Nat.le_of_ble_eq_true rfl) (Nat.le_of_ble_eq_true rfl) ⟨Nat.le_of_ble_eq_true rfl, Nat.le_of_ble_eq_true rfl⟩ (Nat.le_of_ble_eq_true rfl) (Nat.le_of_ble_eq_true rfl) (⟨rfl, by rw [hat]; exact if_neg (by dsimp only; omega)⟩)
  · skip
    refine lv_iload_n hx hb dX4_rank_11 rfl (lv_at hl 3 rfl) ?_
    refine lv_aload_n hx hb dX4_rank_12 rfl (lv_at hl 0 rfl) ?_
    refine gf_X4_151 hx hb hT hown hK hP 10 rfl rfl dX4_rank_13 ?_
    refine z_alen hx hb hK hP 11 rfl dX4_rank_16 ?_
    refine z_icmp_lt (tgt := 30) hx hb dX4_rank_17 (by decide) (by omega) (by omega) (fun h17 => ?_) (fun h17 => ?_)
    · skip
      refine lv_iload_n hx hb dX4_rank_30 rfl (lv_at hl 3 rfl) ?_
      refine z_iconst hx hb dX4_rank_31 ?_
      refine z_icmp_ne (tgt := 43) hx hb dX4_rank_32 (by decide) (by omega) (by omega) (fun h32 => ?_) (fun h32 => ?_)
      · skip
        refine lv_aload_n hx hb dX4_rank_43 rfl (lv_at hl 0 rfl) ?_
        refine gf_X4_151 hx hb hT hown hK hP 10 rfl rfl dX4_rank_44 ?_
        refine lv_iload_n hx hb dX4_rank_47 rfl (lv_at hl 3 rfl) ?_
        refine z_iald hx hb hK hP 11 rfl (⟨by omega, by omega, by omega⟩) dX4_rank_48 ?_
        refine vx_ret ?_
        refine W.widen (k := 2) (n := 12) (Nat.le_of_ble_eq_true rfl) (Nat.le_of_ble_eq_true rfl) ?_
        exact z_wri () hx hb hr hlocks hK hP0 hD hS (by rw [hat]; exact if_pos (by dsimp only; omega)) (by rw [hat]; first | exact (if_pos h32).symm | exact (if_neg h32).symm) dX4_rank_49
      · skip
        refine lv_aload_n hx hb dX4_rank_35 rfl (lv_at hl 0 rfl) ?_
        refine gf_X4_151 hx hb hT hown hK hP 10 rfl rfl dX4_rank_36 ?_
        refine z_alen hx hb hK hP 11 rfl dX4_rank_39 ?_
        refine z_goto (tgt := 49) hx hb dX4_rank_40 (by decide) ?_
        refine vx_ret ?_
        refine W.widen (k := 2) (n := 12) (Nat.le_of_ble_eq_true rfl) (Nat.le_of_ble_eq_true rfl) ?_
        exact z_wri () hx hb hr hlocks hK hP0 hD hS (by rw [hat]; exact if_pos (by dsimp only; omega)) (by rw [hat]; first | exact (if_pos h32).symm | exact (if_neg h32).symm) dX4_rank_49
    · skip
      exact z_throw (text := "there is no such point of the cell") hx hb hst hown hT hX kt_AIO (by decide +kernel) hml hl.1 htab hlocks dX4_rank_20 dX4_rank_23 dX4_rank_24 dX4_rank_26 dX4_rank_29 (Nat.le_of_ble_eq_true rfl) (Nat.le_of_ble_eq_true rfl) ⟨Nat.le_of_ble_eq_true rfl, Nat.le_of_ble_eq_true rfl⟩ (Nat.le_of_ble_eq_true rfl) (Nat.le_of_ble_eq_true rfl) (⟨rfl, by rw [hat]; exact if_neg (by dsimp only; omega)⟩)

set_option maxHeartbeats 4000000 in
set_option maxRecDepth 100000 in
theorem c_X4_same (l : Launch) (hst : l.stackTraces = false) (G : zG) (xx pg ik mx co pa cv ca cb ar : Nat) (nx w h pts cnt most rch : Int) (M C P : Int → Int) (cc : Int) (L V : Int → Int) (cs : List cT) (c9 x y : Int) (hp : pgOK w h pts cnt most rch M C P) (hvv : cvOK cc L V) (hnx : 0 ≤ nx ∧ nx ≤ 6) (hcs : csOK cs) (hnl : nx = (cs.length : Int)) (hc9 : -2147483648 ≤ c9 ∧ c9 ≤ 2147483647) (hx : -2147483648 ≤ x ∧ x ≤ 2147483647) (hy : -2147483648 ≤ y ∧ y ≤ 2147483647) : zXi l yX4_same cX4_same 5 (some .int) { frames := 8, cells := 2, slots := 12, locals := 117 } G [.ref xx, .int (zI (c9)), .int (zI (x)), .int (zI (y))] (xL G xx pg ik mx co pa cv ca cb ar nx w h pts cnt most rch M C P cc L V (Fof cs) ++ clAll G cs) (S := Unit) (fun u => (nmV (cAt cs c9).2.2.2.1 (cAt cs c9).2.2.2.2.1 (cAt cs c9).2.2.2.2.2.1 x y)) (fun u => cSam c9 x y nx = 0) (fun u => xL G xx pg ik mx co pa cv ca cb ar nx w h pts cnt most rch M C P cc L V (Fof cs) ++ clAll G cs) (fun E => (E = "java/lang/ArrayIndexOutOfBoundsException" ∧ cSam c9 x y nx = 1) ∨ (E = "java/lang/IllegalArgumentException" ∧ cSam c9 x y nx = 2)) := by
  intro sz
  refine vx_ofW (cc := cX4_same) (maxL := 5) (ret := (some .int)) (by decide) rfl ?_
  intro p e s m args below meth c s₁ B hml htab hv
  obtain ⟨rfl, hsz, hP, hK, hD0, hX⟩ := hv
  have hx := B.exec
  have hb := B.bytes
  have hr := B.returns
  have hT : ∀ w ∈ TB, w.before _ s = true := fun w h => atoms_spec (ws := Cond.code yX4_same cX4_same 5 (some .int) :: TB) B.pre w (List.mem_cons_of_mem _ h)
  have hown : s.vm.findClass RX4 = some m.cls := findClass_of_methodNamed B.named
  have hlocks := B.notSynchronized
  subst hsz
  have hD := hD0.self (sz := s.heap.size)
  generalize hAe : va_A (xL G xx pg ik mx co pa cv ca cb ar nx w h pts cnt most rch M C P cc L V (Fof cs) ++ clAll G cs) s.heap.size = A at hD hX ⊢
  have hA : ∀ q : Nat, s.heap.size ≤ q → A q := fun q h => by rw [← hAe]; exact Or.inr h
  have hS : va_S A s.heap s.heap [] := va_S.rf
  have hsub : ∀ q, va_A (xL G xx pg ik mx co pa cv ca cb ar nx w h pts cnt most rch M C P cc L V (Fof cs) ++ clAll G cs) s.heap.size q → A q := fun q h => by rw [← hAe]; exact h
  have hP : zP G (xL G xx pg ik mx co pa cv ca cb ar nx w h pts cnt most rch M C P cc L V (Fof cs) ++ clAll G cs) s.heap := hP
  have hD : va_D A (xL G xx pg ik mx co pa cv ca cb ar nx w h pts cnt most rch M C P cc L V (Fof cs) ++ clAll G cs) := hD
  have hl := lv_entry ([.ref xx, .int (zI (c9)), .int (zI (x)), .int (zI (y))]) (n := 5) (Nat.le_of_ble_eq_true rfl)
  rw [lg_entry_eq]
  generalize (lg_sl ([.ref xx, .int (zI (c9)), .int (zI (x)), .int (zI (y))]) ++ List.replicate (5 - (lg_sl ([.ref xx, .int (zI (c9)), .int (zI (x)), .int (zI (y))])).length) Slot.unset).toArray = ls at hl ⊢
  have hl : lv_has ls 5 [(0, .ref xx), (1, .int (zI (c9))), (2, .int (zI (x))), (3, .int (zI (y)))] := hl
  obtain ⟨hw, hh, hpts, hcnt, hmost, hrch, hM, hC, hB⟩ := id hp
  have hpt := pgOK_pts hp
  obtain ⟨hcc, hL0, hLe, hLs, hLb, hVb⟩ := id hvv
  have hPx : zP G (xL G xx pg ik mx co pa cv ca cb ar nx w h pts cnt most rch M C P cc L V (Fof cs)) s.heap := zP_left hP
  have hD0x : va_D (fun _ => True) (xL G xx pg ik mx co pa cv ca cb ar nx w h pts cnt most rch M C P cc L V (Fof cs)) := zD_left hD0
  have hsubx : ∀ q, va_A (xL G xx pg ik mx co pa cv ca cb ar nx w h pts cnt most rch M C P cc L V (Fof cs)) s.heap.size q → A q := fun q h => hsub q (zA_left h)
  obtain ⟨ce, ra, n, dp, br, sl, K, hat⟩ : ∃ ce ra n dp br sl K, cAt cs c9 = (ce, ra, n, dp, br, sl, K) := ⟨_, _, _, _, _, _, _, rfl⟩
  refine lv_aload_n hx hb dX4_same_0 rfl (lv_at hl 0 rfl) ?_
  refine lv_iload_n hx hb dX4_same_1 rfl (lv_at hl 1 rfl) ?_
  refine z_xr (G := G) (q0 := 0) (As := [.int (zI (c9))]) (rest := []) hx hb hml hown hT hK htab hlocks hX (c_X4_checkedCell l hst G xx pg ik mx co pa cv ca cb ar nx w h pts cnt most rch M C P cc L V (Fof cs) (c9) hp hvv hnx (by omega) (fun j9 hj9 => Fof_has hnl hj9)) kc_X4_147 ⟨Nat.le_of_ble_eq_true rfl, Nat.le_of_ble_eq_true rfl⟩ ⟨Nat.le_of_ble_eq_true rfl, Nat.le_of_ble_eq_true rfl⟩ ⟨Nat.le_of_ble_eq_true rfl, Nat.le_of_ble_eq_true rfl⟩ hPx hD0x hsubx rfl rfl rfl rfl hl.1 rfl (Nat.le_of_ble_eq_true rfl) dX4_same_2 (fun E9 h9 => Or.inl ⟨h9.1, if_neg h9.2⟩) (fun q9 ok2 => ?_)
  obtain ⟨hg1, hg2⟩ := Fof_get ok2.1
  rw [hat] at hg1 hg2
  have hq9 : ce = q9 := hg2.symm
  subst hq9
  have hcl := hcs _ _ hg1
  have hcl : clOK n dp br sl K := hcl
  obtain ⟨hdp, hbr, hsl, hn, hn2, hKb⟩ := id hcl
  have hP0 := hP
  have hP : zP G (xL G xx pg ik mx co pa cv ca cb ar nx w h pts cnt most rch M C P cc L V (Fof cs) ++ clL G ce ra n dp br sl K) s.heap := va_P.app hPx (cl_get hg1 (zP_right hP))
  refine lv_astore (lv' := [(4, .ref ce), (0, .ref xx), (1, .int (zI (c9))), (2, .int (zI (x))), (3, .int (zI (y)))]) hx hb dX4_same_5 hl (by decide) rfl (fun ls hl => ?_)
  refine lv_iload_n hx hb dX4_same_7 rfl (lv_at hl 3 rfl) ?_
  refine z_callS (G := G) (As := [.int (zI (x))]) (rest := []) hx hb hml hown hT hK (c_X4_isTooFar l G (x) (by omega)) kc_X4_156 ⟨Nat.le_of_ble_eq_true rfl, Nat.le_of_ble_eq_true rfl⟩ ⟨rfl, rfl⟩ ⟨Nat.le_of_ble_eq_true rfl, Nat.le_of_ble_eq_true rfl⟩ (hP.sub [] rfl) rfl hl.1 rfl (Nat.le_of_ble_eq_true rfl) dX4_same_8 ?_
  refine z_if_ne (tgt := 21) hx hb dX4_same_11 (by decide) (bI_rng _) (fun h11 => ?_) (fun h11 => ?_)
  · skip
    have h11 := bI_t.mp h11
    simp only [Bool.and_eq_true, Bool.and_eq_false_iff, Bool.or_eq_true, Bool.or_eq_false_iff, decide_eq_true_eq, decide_eq_false_iff_not] at h11
    exact z_throw (text := "a point is -1000000 to 1000000 away") hx hb hst hown hT hX kt_IAE (by decide +kernel) hml hl.1 htab hlocks dX4_same_21 dX4_same_24 dX4_same_25 dX4_same_27 dX4_same_30 (Nat.le_of_ble_eq_true rfl) (Nat.le_of_ble_eq_true rfl) ⟨Nat.le_of_ble_eq_true rfl, Nat.le_of_ble_eq_true rfl⟩ (Nat.le_of_ble_eq_true rfl) (Nat.le_of_ble_eq_true rfl) (Or.inr ⟨rfl, by unfold cSam; rw [if_pos (by omega), if_neg (by omega)]⟩)
  · skip
    have h11 := bI_f.mp h11
    simp only [Bool.and_eq_true, Bool.and_eq_false_iff, Bool.or_eq_true, Bool.or_eq_false_iff, decide_eq_true_eq, decide_eq_false_iff_not] at h11
    refine lv_iload_n hx hb dX4_same_14 rfl (lv_at hl 4 rfl) ?_
    refine z_callS (G := G) (As := [.int (zI (y))]) (rest := []) hx hb hml hown hT hK (c_X4_isTooFar l G (y) (by omega)) kc_X4_156 ⟨Nat.le_of_ble_eq_true rfl, Nat.le_of_ble_eq_true rfl⟩ ⟨rfl, rfl⟩ ⟨Nat.le_of_ble_eq_true rfl, Nat.le_of_ble_eq_true rfl⟩ (hP.sub [] rfl) rfl hl.1 rfl (Nat.le_of_ble_eq_true rfl) dX4_same_15 ?_
    refine z_if_eq (tgt := 31) hx hb dX4_same_18 (by decide) (bI_rng _) (fun h18 => ?_) (fun h18 => ?_)
    · skip
      have h18 := bI_f.mp h18
      simp only [Bool.and_eq_true, Bool.and_eq_false_iff, Bool.or_eq_true, Bool.or_eq_false_iff, decide_eq_true_eq, decide_eq_false_iff_not] at h18
      refine lv_aload hx hb dX4_same_31 (lv_at hl 0 rfl) ?_
      refine lv_iload_n hx hb dX4_same_33 rfl (lv_at hl 3 rfl) ?_
      refine lv_iload_n hx hb dX4_same_34 rfl (lv_at hl 4 rfl) ?_
      refine z_callV (q0 := 0) (G := G) (As := [.int (zI (x)), .int (zI (y))]) (rest := []) hx hb hml hown hT hK (c_X0_numberOf l G ce ra n dp br sl K (x) (y) hdp hbr hsl (by omega) (by omega)) kc_X4_161 ⟨Nat.le_of_ble_eq_true rfl, Nat.le_of_ble_eq_true rfl⟩ ⟨rfl, rfl⟩ ⟨Nat.le_of_ble_eq_true rfl, Nat.le_of_ble_eq_true rfl⟩ (hP.sub [10, 11] rfl) rfl rfl rfl rfl hl.1 rfl (Nat.le_of_ble_eq_true rfl) dX4_same_35 ?_
      refine vx_ret ?_
      refine W.widen (k := 2) (n := 12) (Nat.le_of_ble_eq_true rfl) (Nat.le_of_ble_eq_true rfl) ?_
      exact z_wri () hx hb hr hlocks hK hP0 hD hS (by unfold cSam; rw [if_pos (by omega), if_pos (by omega)]) (by rw [hat]) dX4_same_38
    · skip
      have h18 := bI_t.mp h18
      simp only [Bool.and_eq_true, Bool.and_eq_false_iff, Bool.or_eq_true, Bool.or_eq_false_iff, decide_eq_true_eq, decide_eq_false_iff_not] at h18
      exact z_throw (text := "a point is -1000000 to 1000000 away") hx hb hst hown hT hX kt_IAE (by decide +kernel) hml hl.1 htab hlocks dX4_same_21 dX4_same_24 dX4_same_25 dX4_same_27 dX4_same_30 (Nat.le_of_ble_eq_true rfl) (Nat.le_of_ble_eq_true rfl) ⟨Nat.le_of_ble_eq_true rfl, Nat.le_of_ble_eq_true rfl⟩ (Nat.le_of_ble_eq_true rfl) (Nat.le_of_ble_eq_true rfl) (Or.inr ⟨rfl, by unfold cSam; rw [if_pos (by omega), if_neg (by omega)]⟩)

theorem bentV_b {cc : Int} {L V : Int → Int} (hvv : cvOK cc L V) {v : Int} (hv : 0 ≤ v ∧ v ≤ 255) : 0 ≤ bentV cc L V v ∧ bentV cc L V v ≤ 255 := by
  obtain ⟨hcc, hL0, hLe, hLs, hLb, hVb⟩ := id hvv
  have hf := ffV_b hcc L v
  have hsp : ∀ a, 0 ≤ a → a ≤ cc - 1 → (∀ j, 0 ≤ j → j < a → L j < v) ∨ True := fun _ _ _ => Or.inr trivial
  have key : ∀ (n : Nat) (a : Int), 0 ≤ a → a ≤ cc - 1 → (∀ j, 0 ≤ j → j < a → L j < v) → a + n = 12 → (∀ j, 0 ≤ j → j < ffR cc L v n a → L j < v) ∧ (ffR cc L v n a = cc - 1 ∨ v ≤ L (ffR cc L v n a)) := by
    intro n
    induction n with
    | zero => intro a h1 h2 h3 h4; exact ⟨h3, by omega⟩
    | succ n ih =>
      intro a h1 h2 h3 h4
      show (∀ j, 0 ≤ j → j < (if a < cc - 1 ∧ L a < v then ffR cc L v n (a + 1) else a) → L j < v) ∧ ((if a < cc - 1 ∧ L a < v then ffR cc L v n (a + 1) else a) = cc - 1 ∨ v ≤ L (if a < cc - 1 ∧ L a < v then ffR cc L v n (a + 1) else a))
      by_cases q : a < cc - 1 ∧ L a < v
      · rw [if_pos q]
        refine ih (a + 1) (by omega) (by omega) (fun j j1 j2 => ?_) (by omega)
        by_cases e : j = a
        · rw [e]; exact q.2
        · exact h3 j j1 (by omega)
      · rw [if_neg q]
        refine ⟨h3, ?_⟩
        by_cases e : a = cc - 1
        · exact Or.inl e
        · right; omega
  obtain ⟨k1, k2⟩ := key 12 0 (by omega) (by omega) (fun j j1 j2 => by omega) (by omega)
  have e9 : ffV cc L v = ffR cc L v 12 0 := rfl
  rw [← e9] at k1 k2
  have k3 : v ≤ L (ffV cc L v) := by rcases k2 with h | h; (rw [h, hLe]; omega); exact h
  have hm : 1 ≤ max 1 (ffV cc L v) ∧ max 1 (ffV cc L v) ≤ cc - 1 := by omega
  have k4 : v ≤ L (max 1 (ffV cc L v)) := by
    by_cases q : 1 ≤ ffV cc L v
    · rw [Int.max_eq_right q]; exact k3
    · have e0 : ffV cc L v = 0 := by omega
      rw [e0] at k3
      have := hLs 0 (max 1 (ffV cc L v)) (by omega) (by omega) (by omega)
      omega
  have k5 : L (max 1 (ffV cc L v) - 1) ≤ v := by
    by_cases q : 1 ≤ ffV cc L v
    · rw [Int.max_eq_right q]
      have := k1 (ffV cc L v - 1) (by omega) (by omega); omega
    · have e0 : ffV cc L v = 0 := by omega
      rw [e0]
      show L 0 ≤ v
      omega
  have k6 := hLs (max 1 (ffV cc L v) - 1) (max 1 (ffV cc L v)) (by omega) (by omega) (by omega)
  unfold bentV
  rw [if_neg (by omega)]
  exact lin_b (hVb _) (hVb _) (by omega) (by omega)

set_option maxHeartbeats 4000000 in
set_option maxRecDepth 100000 in
theorem c_X4_prints (l : Launch) (hst : l.stackTraces = false) (G : zG) (xx pg ik mx co pa cv ca cb ar : Nat) (nx w h pts cnt most rch : Int) (M C P : Int → Int) (cc : Int) (L V : Int → Int) (cs : List cT) (c9 k x y : Int) (hp : pgOK w h pts cnt most rch M C P) (hvv : cvOK cc L V) (hnx : 0 ≤ nx ∧ nx ≤ 6) (hcs : csOK cs) (hnl : nx = (cs.length : Int)) (hc9 : -2147483648 ≤ c9 ∧ c9 ≤ 2147483647) (hk : -2147483648 ≤ k ∧ k ≤ 2147483647) (hx : -2147483648 ≤ x ∧ x ≤ 2147483647) (hy : -2147483648 ≤ y ∧ y ≤ 2147483647) : zXi l yX4_prints cX4_prints 7 (some .boolean) { frames := 8, cells := 3, slots := 18, locals := 117 } G [.ref xx, .int (zI (c9)), .int (zI (k)), .int (zI (x)), .int (zI (y))] (xL G xx pg ik mx co pa cv ca cb ar nx w h pts cnt most rch M C P cc L V (Fof cs) ++ clAll G cs) (S := Unit) (fun u => bI (decide ((cAt cs c9).2.2.2.2.2.2 (nmV (cAt cs c9).2.2.2.1 (cAt cs c9).2.2.2.2.1 (cAt cs c9).2.2.2.2.2.1 x y) < ((bentV cc L V (P (k * pts + (x + w * y)))) * ((cAt cs c9).2.2.1 : Int) + 127) / 255))) (fun u => cPri c9 k x y nx cnt w h = 0) (fun u => xL G xx pg ik mx co pa cv ca cb ar nx w h pts cnt most rch M C P cc L V (Fof cs) ++ clAll G cs) (fun E => E = "java/lang/ArrayIndexOutOfBoundsException" ∧ cPri c9 k x y nx cnt w h = 1) := by
  intro sz
  refine vx_ofW (cc := cX4_prints) (maxL := 7) (ret := (some .boolean)) (by decide) rfl ?_
  intro p e s m args below meth c s₁ B hml htab hv
  obtain ⟨rfl, hsz, hP, hK, hD0, hX⟩ := hv
  have hx := B.exec
  have hb := B.bytes
  have hr := B.returns
  have hT : ∀ w ∈ TB, w.before _ s = true := fun w h => atoms_spec (ws := Cond.code yX4_prints cX4_prints 7 (some .boolean) :: TB) B.pre w (List.mem_cons_of_mem _ h)
  have hown : s.vm.findClass RX4 = some m.cls := findClass_of_methodNamed B.named
  have hlocks := B.notSynchronized
  subst hsz
  have hD := hD0.self (sz := s.heap.size)
  generalize hAe : va_A (xL G xx pg ik mx co pa cv ca cb ar nx w h pts cnt most rch M C P cc L V (Fof cs) ++ clAll G cs) s.heap.size = A at hD hX ⊢
  have hA : ∀ q : Nat, s.heap.size ≤ q → A q := fun q h => by rw [← hAe]; exact Or.inr h
  have hS : va_S A s.heap s.heap [] := va_S.rf
  have hsub : ∀ q, va_A (xL G xx pg ik mx co pa cv ca cb ar nx w h pts cnt most rch M C P cc L V (Fof cs) ++ clAll G cs) s.heap.size q → A q := fun q h => by rw [← hAe]; exact h
  have hP : zP G (xL G xx pg ik mx co pa cv ca cb ar nx w h pts cnt most rch M C P cc L V (Fof cs) ++ clAll G cs) s.heap := hP
  have hD : va_D A (xL G xx pg ik mx co pa cv ca cb ar nx w h pts cnt most rch M C P cc L V (Fof cs) ++ clAll G cs) := hD
  have hl := lv_entry ([.ref xx, .int (zI (c9)), .int (zI (k)), .int (zI (x)), .int (zI (y))]) (n := 7) (Nat.le_of_ble_eq_true rfl)
  rw [lg_entry_eq]
  generalize (lg_sl ([.ref xx, .int (zI (c9)), .int (zI (k)), .int (zI (x)), .int (zI (y))]) ++ List.replicate (7 - (lg_sl ([.ref xx, .int (zI (c9)), .int (zI (k)), .int (zI (x)), .int (zI (y))])).length) Slot.unset).toArray = ls at hl ⊢
  have hl : lv_has ls 7 [(0, .ref xx), (1, .int (zI (c9))), (2, .int (zI (k))), (3, .int (zI (x))), (4, .int (zI (y)))] := hl
  obtain ⟨hw, hh, hpts, hcnt, hmost, hrch, hM, hC, hB⟩ := id hp
  have hpt := pgOK_pts hp
  obtain ⟨hcc, hL0, hLe, hLs, hLb, hVb⟩ := id hvv
  have hPx : zP G (xL G xx pg ik mx co pa cv ca cb ar nx w h pts cnt most rch M C P cc L V (Fof cs)) s.heap := zP_left hP
  have hD0x : va_D (fun _ => True) (xL G xx pg ik mx co pa cv ca cb ar nx w h pts cnt most rch M C P cc L V (Fof cs)) := zD_left hD0
  have hsubx : ∀ q, va_A (xL G xx pg ik mx co pa cv ca cb ar nx w h pts cnt most rch M C P cc L V (Fof cs)) s.heap.size q → A q := fun q h => hsub q (zA_left h)
  obtain ⟨ce, ra, n, dp, br, sl, K, hat⟩ : ∃ ce ra n dp br sl K, cAt cs c9 = (ce, ra, n, dp, br, sl, K) := ⟨_, _, _, _, _, _, _, rfl⟩
  refine lv_aload_n hx hb dX4_prints_0 rfl (lv_at hl 0 rfl) ?_
  refine lv_iload_n hx hb dX4_prints_1 rfl (lv_at hl 1 rfl) ?_
  refine z_xr (G := G) (q0 := 0) (As := [.int (zI (c9))]) (rest := []) hx hb hml hown hT hK htab hlocks hX (c_X4_checkedCell l hst G xx pg ik mx co pa cv ca cb ar nx w h pts cnt most rch M C P cc L V (Fof cs) (c9) hp hvv hnx (by omega) (fun j9 hj9 => Fof_has hnl hj9)) kc_X4_147 ⟨Nat.le_of_ble_eq_true rfl, Nat.le_of_ble_eq_true rfl⟩ ⟨Nat.le_of_ble_eq_true rfl, Nat.le_of_ble_eq_true rfl⟩ ⟨Nat.le_of_ble_eq_true rfl, Nat.le_of_ble_eq_true rfl⟩ hPx hD0x hsubx rfl rfl rfl rfl hl.1 rfl (Nat.le_of_ble_eq_true rfl) dX4_prints_2 (fun E9 h9 => ⟨h9.1, if_neg (fun h8 => h9.2 h8.1)⟩) (fun q9 ok2 => ?_)
  obtain ⟨hg1, hg2⟩ := Fof_get ok2.1
  rw [hat] at hg1 hg2
  have hq9 : ce = q9 := hg2.symm
  subst hq9
  have hcl := hcs _ _ hg1
  have hcl : clOK n dp br sl K := hcl
  obtain ⟨hdp, hbr, hsl, hn, hn2, hKb⟩ := id hcl
  have hP0 := hP
  have hP : zP G (xL G xx pg ik mx co pa cv ca cb ar nx w h pts cnt most rch M C P cc L V (Fof cs) ++ clL G ce ra n dp br sl K) s.heap := va_P.app hPx (cl_get hg1 (zP_right hP))
  refine lv_astore (lv' := [(5, .ref ce), (0, .ref xx), (1, .int (zI (c9))), (2, .int (zI (k))), (3, .int (zI (x))), (4, .int (zI (y)))]) hx hb dX4_prints_5 hl (by decide) rfl (fun ls hl => ?_)
  refine lv_aload_n hx hb dX4_prints_7 rfl (lv_at hl 1 rfl) ?_
  refine lv_iload_n hx hb dX4_prints_8 rfl (lv_at hl 3 rfl) ?_
  refine z_xt (G := G) (q0 := 0) (As := [.int (zI (k))]) (rest := []) hx hb hml hown hT hK htab hlocks hX (c_X4_checkInk l hst G xx pg ik mx co pa cv ca cb ar nx w h pts cnt most rch M C P cc L V (Fof cs) (k) hp hvv hnx (by omega)) kc_X4_75 ⟨Nat.le_of_ble_eq_true rfl, Nat.le_of_ble_eq_true rfl⟩ ⟨Nat.le_of_ble_eq_true rfl, Nat.le_of_ble_eq_true rfl⟩ ⟨Nat.le_of_ble_eq_true rfl, Nat.le_of_ble_eq_true rfl⟩ hPx hD0x hsubx rfl rfl rfl rfl hl.1 rfl (Nat.le_of_ble_eq_true rfl) dX4_prints_9 (fun E9 h9 => ⟨h9.1, if_neg (fun h8 => h9.2 h8.2.1)⟩) (fun ok9 => ?_)
  refine lv_aload_n hx hb dX4_prints_12 rfl (lv_at hl 1 rfl) ?_
  refine lv_iload_n hx hb dX4_prints_13 rfl (lv_at hl 4 rfl) ?_
  refine lv_iload hx hb dX4_prints_14 (lv_at hl 5 rfl) ?_
  refine z_xt (G := G) (q0 := 0) (As := [.int (zI (x)), .int (zI (y))]) (rest := []) hx hb hml hown hT hK htab hlocks hX (c_X4_checkPoint l hst G xx pg ik mx co pa cv ca cb ar nx w h pts cnt most rch M C P cc L V (Fof cs) (x) (y) hp hvv hnx (by omega) (by omega)) kc_X4_100 ⟨Nat.le_of_ble_eq_true rfl, Nat.le_of_ble_eq_true rfl⟩ ⟨Nat.le_of_ble_eq_true rfl, Nat.le_of_ble_eq_true rfl⟩ ⟨Nat.le_of_ble_eq_true rfl, Nat.le_of_ble_eq_true rfl⟩ hPx hD0x hsubx rfl rfl rfl rfl hl.1 rfl (Nat.le_of_ble_eq_true rfl) dX4_prints_16 (fun E9 h9 => ⟨h9.1, if_neg (fun h8 => h9.2 h8.2.2)⟩) (fun ok16 => ?_)
  have hpq := pt_b (w := w) (h := h) (x := x) (y := y) (by omega) (by omega)
  have hpb := hB (k * pts + (x + w * y))
  have hbv := bentV_b hvv hpb
  refine lv_aload_n hx hb dX4_prints_19 rfl (lv_at hl 1 rfl) ?_
  refine gf_X4_30 hx hb hT hown hK hP 0 rfl rfl dX4_prints_20 ?_
  refine lv_aload_n hx hb dX4_prints_23 rfl (lv_at hl 1 rfl) ?_
  refine gf_X4_23 hx hb hT hown hK hP 0 rfl rfl dX4_prints_24 ?_
  refine lv_iload_n hx hb dX4_prints_27 rfl (lv_at hl 3 rfl) ?_
  refine lv_iload_n hx hb dX4_prints_28 rfl (lv_at hl 4 rfl) ?_
  refine lv_aload_n hx hb dX4_prints_29 rfl (lv_at hl 1 rfl) ?_
  refine gf_X4_23 hx hb hT hown hK hP 0 rfl rfl dX4_prints_30 ?_
  refine gf_X4_83 hx hb hT hown hK hP 1 rfl rfl dX4_prints_33 ?_
  refine lv_iload hx hb dX4_prints_36 (lv_at hl 5 rfl) ?_
  refine z_imul hx hb dX4_prints_38 ?_
  refine z_iadd hx hb dX4_prints_39 ?_
  refine z_callV (q0 := 0) (G := G) (As := [.int (zI (k)), .int (zI ((x + (w * y))))]) (rest := [.ref cv]) hx hb hml hown hT hK (c_X3_byteAt l G pg ik mx co pa w h pts cnt most rch M C P (k) ((x + (w * y))) hp (by omega) (by omega)) kc_X4_164 ⟨Nat.le_of_ble_eq_true rfl, Nat.le_of_ble_eq_true rfl⟩ ⟨rfl, rfl⟩ ⟨Nat.le_of_ble_eq_true rfl, Nat.le_of_ble_eq_true rfl⟩ (hP.sub [1, 2, 3, 4, 5] rfl) rfl rfl rfl rfl hl.1 rfl (Nat.le_of_ble_eq_true rfl) dX4_prints_40 ?_
  refine z_callV (q0 := 0) (G := G) (As := [.int (zI ((P (k * pts + (x + (w * y))))))]) (rest := []) hx hb hml hown hT hK (c_X1_bent l G cv ca cb cc L V ((P (k * pts + (x + (w * y))))) hvv (by omega)) kc_X4_110 ⟨Nat.le_of_ble_eq_true rfl, Nat.le_of_ble_eq_true rfl⟩ ⟨rfl, rfl⟩ ⟨Nat.le_of_ble_eq_true rfl, Nat.le_of_ble_eq_true rfl⟩ (hP.sub [6, 7, 8] rfl) rfl rfl rfl rfl hl.1 rfl (Nat.le_of_ble_eq_true rfl) dX4_prints_43 ?_
  refine lv_istore (lv' := [(6, .int (zI ((bentV cc L V (P (k * pts + (x + (w * y)))))))), (5, .ref ce), (0, .ref xx), (1, .int (zI (c9))), (2, .int (zI (k))), (3, .int (zI (x))), (4, .int (zI (y)))]) hx hb dX4_prints_46 hl (by decide) rfl (fun ls hl => ?_)
  refine lv_aload hx hb dX4_prints_48 (lv_at hl 1 rfl) ?_
  refine lv_iload hx hb dX4_prints_50 (lv_at hl 0 rfl) ?_
  refine lv_iload_n hx hb dX4_prints_52 rfl (lv_at hl 5 rfl) ?_
  refine lv_iload hx hb dX4_prints_53 (lv_at hl 6 rfl) ?_
  refine z_callV (q0 := 0) (G := G) (As := [.int (zI ((bentV cc L V (P (k * pts + (x + (w * y))))))), .int (zI (x)), .int (zI (y))]) (rest := []) hx hb hml hown hT hK (c_X0_takes l G ce ra n dp br sl K ((bentV cc L V (P (k * pts + (x + (w * y)))))) (x) (y) hcl (by omega) (by omega) (by omega)) kc_X4_167 ⟨Nat.le_of_ble_eq_true rfl, Nat.le_of_ble_eq_true rfl⟩ ⟨rfl, rfl⟩ ⟨Nat.le_of_ble_eq_true rfl, Nat.le_of_ble_eq_true rfl⟩ (hP.sub [10, 11] rfl) rfl rfl rfl rfl hl.1 rfl (Nat.le_of_ble_eq_true rfl) dX4_prints_55 ?_
  refine vx_ret ?_
  exact z_wrz () hx hb hr hlocks hK hP0 hD hS (if_pos (by omega)) (bI_01 _) (by rw [hat]) dX4_prints_58
