/-! ===== methods that write: their start and end, calls of them, loops in which the heap changes ===== -/
abbrev zPw (G : zG) (av : List Value) (ws : va_W) (sz : Nat) : Array Value → State → Prop := va_Pc av (fun U => U.heap.size = sz ∧ zP G ws U.heap ∧ zK G U ∧ va_D (fun _ => True) ws)
theorem zPw_blind (G : zG) (av : List Value) (ws : va_W) (sz : Nat) : FrameBlind (zPw G av ws sz) := fun a U g mk q => by
  obtain ⟨q0, q1, qP, qK, qD⟩ := q
  exact ⟨q0, q1, qP, va_K.moved (u := U) (U := U.calling g mk a) (Vm.Alike.refl U.vm) qK, qD⟩
abbrev zB (G : zG) (A : Nat → Prop) {S : Type} (ws2 : S → va_W) : S → State → Prop := fun u t => zP G (ws2 u) t.heap ∧ zK G t ∧ va_D A (ws2 u)
abbrev zWi (l : Launch) (y : MethodName) (bytes : ByteArray) (maxL : Nat) (ret : Option FieldType) (rm : Room) (G : zG) (av : List Value) (ws : va_W) {S : Type} (v : S → Int) (ok : S → Prop) (ws2 : S → va_W) : Prop :=
  ∀ sz : Nat, Met l y (Cond.code y bytes maxL ret :: TB) rm (zPw G av ws sz) (va_Qi (fun r u => r = zI (v u) ∧ ok u) (zB G (va_A ws sz) ws2) (va_A ws sz)) rm.cells rm.slots (va_A ws sz)
abbrev zWv (l : Launch) (y : MethodName) (bytes : ByteArray) (maxL : Nat) (rm : Room) (G : zG) (av : List Value) (ws : va_W) {S : Type} (ok : S → Prop) (ws2 : S → va_W) : Prop :=
  ∀ sz : Nat, Met l y (Cond.code y bytes maxL none :: TB) rm (zPw G av ws sz) (va_Qv (fun u => ok u) (zB G (va_A ws sz) ws2) (va_A ws sz)) rm.cells rm.slots (va_A ws sz)
theorem zP_left {D : va_G} {cl : List vw_C} {a b : va_W} {H : Heap} (h : va_P D cl (a ++ b) H) : va_P D cl a H := fun k q hk => h k q (by
  have h1 : k < a.length := (List.getElem?_eq_some_iff.mp hk).1
  rw [List.getElem?_append_left h1]; exact hk)
theorem zD_left {A : Nat → Prop} {a b : va_W} (h : va_D A (a ++ b)) : va_D A a :=
  ⟨fun i j p q hi hj e => h.1 i j p q (by rw [List.getElem?_append_left (List.getElem?_eq_some_iff.mp hi).1]; exact hi) (by rw [List.getElem?_append_left (List.getElem?_eq_some_iff.mp hj).1]; exact hj) e,
   fun k q hk => h.2 k q (by rw [List.getElem?_append_left (List.getElem?_eq_some_iff.mp hk).1]; exact hk)⟩
theorem fm_map {X wc : va_W} : ∀ (is : List Nat) (wc : va_W), is.map (fun i => X[i]?) = wc.map some → is.filterMap (fun i => X[i]?) = wc := by
  intro is
  induction is with
  | nil => intro wc h; cases wc with
    | nil => rfl
    | cons a b => simp at h
  | cons i r ih => intro wc h; cases wc with
    | nil => simp at h
    | cons a b =>
      simp only [List.map_cons, List.cons.injEq] at h
      rw [List.filterMap_cons_some h.1, ih b h.2]
section ZW
variable {p : Program} {l : Launch} {e : Env} {R : Room} {s : State} {m : MethodId} {args : Array Value} {below : List Frame} {meth : Method} {c : Code} {H : Heap} {locs : List Loc} {cells slots : Nat} {Q : State → Prop} {cc : ByteArray} {pc nL : Nat} {ls : Array Slot} {rest st0 : List Value} {A0 : Nat → Prop} {H0 : Heap} {G : zG} {X wc wr pl : va_W}
theorem kc_G {own C : String} {index maxL n : Nat} {y : MethodName} {bytes : ByteArray} {ret : Option FieldType} (kc : kcV own index C y bytes maxL ret n) : GoodIn TB (wsV own index C y (Cond.code y bytes maxL ret :: TB)) := by
  obtain ⟨k1, k2, k3, k4, k5, k6, k7, k8, k9⟩ := kc
  intro w hw
  have h1 : w ∈ TB := by
    rcases List.mem_append.mp hw with h | h
    · simp only [List.mem_cons, List.not_mem_nil, or_false] at h
      rcases h with rfl | rfl | rfl | rfl <;> assumption
    · exact (List.mem_cons.mp h).elim (fun q => by rw [q]; exact k1) id
  exact ⟨h1, TB_good w h1⟩
theorem z_wVi {y : MethodName} {bytes : ByteArray} {maxL index n ci q0 b : Nat} {ret : Option FieldType} {own C : String} {rm : Room} {As : List Value} {fs : List Value} {r : vw_C} {S : Type} {v : S → Int} {ok : S → Prop} {ws2 : S → va_W} (hx : p.tables.exec = Jvm.exec) (hb : c.code = cc) (hml : c.maxLocals = nL) (hown : s.vm.findClass own = some m.cls) (hT : ∀ w ∈ TB, w.before args s = true) (hK : zK G s)
    (hM : zWi l y bytes maxL ret rm G (.ref b :: As) wc v ok ws2) (kc : kcV own index C y bytes maxL ret n) (hR : rm.frames + 1 ≤ R.frames ∧ 8 + (maxL + 11) + rm.locals ≤ R.locals) (hcell : cells + rm.cells ≤ R.cells ∧ slots + rm.slots ≤ R.slots) (hP : zP G (X ++ pl) H) (hD : va_D A0 (X ++ pl)) (hS : va_S A0 H0 H locs) (hA : ∀ q, H0.size ≤ q → A0 q) (isC isR : List Nat) (hC : isC.map (fun i => X[i]?) = wc.map some) (hRr : isR.map (fun i => X[i]?) = wr.map some) (hnC : va_nd isC = true) (hnR : va_nd isR = true) (hdis : ∀ i ∈ isR, i ∉ isC) (he : wc[q0]? = some (b, .inr (ci, fs))) (hc : vwCl[ci]? = some r) (hC' : r.1 = C) (hn : As.length = n) (hls : ls.size = nL) (hst : st0 = As.reverse ++ .ref b :: rest) (hrest : (rest.map fun v => v.category).sum ≤ 8) (hd : decode cc pc = .ok (.invokevirtual index, 3))
    (k : ∀ (u : S) (H : Heap) (locs : List Loc), ok u → zP G ((wr ++ ws2 u) ++ pl) H → va_D A0 ((wr ++ ws2 u) ++ pl) → va_S A0 H0 H locs → W p l e R s m args below meth c H locs (cells + rm.cells) (slots + rm.slots) Q (F0 m (pc + 3) ls (.int (zI (v u)) :: rest))) : W p l e R s m args below meth c H locs cells slots Q (F0 m pc ls st0) := by
  subst hC'
  have hG := kc_G kc
  obtain ⟨k1, k2, k3, k4, k5, k6, k7, k8, k9⟩ := kc
  have hDx := zD_left hD
  have hPc : zP G wc H := (zP_left hP).sub isC (fm_map (wc := wc) isC wc hC)
  have hDc := hDx.sub isC hnC hC
  have hFc := va_free hDx hS hA isC hC
  refine va_calli (va_runV (As := As) (rest := rest) (g := F0 m pc ls st0) ⟨hx, hb, hml, hown, hT⟩ (hM H.size) (cwV n hT hG rfl rfl rfl ⟨k6, k7, k8, k9⟩ hR) ⟨zPw_blind G _ _ _, va_recv hK hPc hc he, fun U hU hW => ⟨rfl, by rw [hU], by rw [hU]; exact hPc, va_K.moved hW.alike hK, hDc.weaken (fun _ _ _ _ => trivial)⟩⟩ rfl hn hls hst (lv_room hrest) hd hcell) hS (fun q _ h => hFc q h) hFc (fun r u t H1 locs1 ht hvm hw hB hz1 hk1 hS1 => ?_)
  obtain ⟨hP1, hK1, hD1⟩ := hB
  rw [ht] at hP1
  obtain ⟨hP2, hD2⟩ := va_joinQ hP hD isC isR hC hRr hnR hdis hk1 hFc hP1 hD1
  rw [hw.1]
  exact k u H1 locs1 hw.2 hP2 hD2 hS1
theorem z_wVv {y : MethodName} {bytes : ByteArray} {maxL index n ci q0 b : Nat} {own C : String} {rm : Room} {As : List Value} {fs : List Value} {r : vw_C} {S : Type} {ok : S → Prop} {ws2 : S → va_W} (hx : p.tables.exec = Jvm.exec) (hb : c.code = cc) (hml : c.maxLocals = nL) (hown : s.vm.findClass own = some m.cls) (hT : ∀ w ∈ TB, w.before args s = true) (hK : zK G s)
    (hM : zWv l y bytes maxL rm G (.ref b :: As) wc ok ws2) (kc : kcV own index C y bytes maxL none n) (hR : rm.frames + 1 ≤ R.frames ∧ 8 + (maxL + 11) + rm.locals ≤ R.locals) (hcell : cells + rm.cells ≤ R.cells ∧ slots + rm.slots ≤ R.slots) (hP : zP G (X ++ pl) H) (hD : va_D A0 (X ++ pl)) (hS : va_S A0 H0 H locs) (hA : ∀ q, H0.size ≤ q → A0 q) (isC isR : List Nat) (hC : isC.map (fun i => X[i]?) = wc.map some) (hRr : isR.map (fun i => X[i]?) = wr.map some) (hnC : va_nd isC = true) (hnR : va_nd isR = true) (hdis : ∀ i ∈ isR, i ∉ isC) (he : wc[q0]? = some (b, .inr (ci, fs))) (hc : vwCl[ci]? = some r) (hC' : r.1 = C) (hn : As.length = n) (hls : ls.size = nL) (hst : st0 = As.reverse ++ .ref b :: rest) (hrest : (rest.map fun v => v.category).sum ≤ 8) (hd : decode cc pc = .ok (.invokevirtual index, 3))
    (k : ∀ (u : S) (H : Heap) (locs : List Loc), ok u → zP G ((wr ++ ws2 u) ++ pl) H → va_D A0 ((wr ++ ws2 u) ++ pl) → va_S A0 H0 H locs → W p l e R s m args below meth c H locs (cells + rm.cells) (slots + rm.slots) Q (F0 m (pc + 3) ls rest)) : W p l e R s m args below meth c H locs cells slots Q (F0 m pc ls st0) := by
  subst hC'
  have hG := kc_G kc
  obtain ⟨k1, k2, k3, k4, k5, k6, k7, k8, k9⟩ := kc
  have hDx := zD_left hD
  have hPc : zP G wc H := (zP_left hP).sub isC (fm_map (wc := wc) isC wc hC)
  have hDc := hDx.sub isC hnC hC
  have hFc := va_free hDx hS hA isC hC
  refine va_callv (va_runV (As := As) (rest := rest) (g := F0 m pc ls st0) ⟨hx, hb, hml, hown, hT⟩ (hM H.size) (cwV n hT hG rfl rfl rfl ⟨k6, k7, k8, k9⟩ hR) ⟨zPw_blind G _ _ _, va_recv hK hPc hc he, fun U hU hW => ⟨rfl, by rw [hU], by rw [hU]; exact hPc, va_K.moved hW.alike hK, hDc.weaken (fun _ _ _ _ => trivial)⟩⟩ rfl hn hls hst (lv_room hrest) hd hcell) hS (fun q _ h => hFc q h) hFc (fun u t H1 locs1 ht hvm hw hB hz1 hk1 hS1 => ?_)
  obtain ⟨hP1, hK1, hD1⟩ := hB
  rw [ht] at hP1
  obtain ⟨hP2, hD2⟩ := va_joinQ hP hD isC isR hC hRr hnR hdis hk1 hFc hP1 hD1
  exact k u H1 locs1 hw hP2 hD2 hS1
theorem z_wI {y : MethodName} {bytes : ByteArray} {maxL index n b : Nat} {own : String} {rm : Room} {As : List Value} {S : Type} {ok : S → Prop} {ws2 : S → va_W} (hx : p.tables.exec = Jvm.exec) (hb : c.code = cc) (hml : c.maxLocals = nL) (hown : s.vm.findClass own = some m.cls) (hT : ∀ w ∈ TB, w.before args s = true) (hK : zK G s)
    (hM : zWv l y bytes maxL rm G (.ref b :: As) wc ok ws2) (kc : kcI own index y bytes maxL n) (hR : rm.frames + 1 ≤ R.frames ∧ 8 + (maxL + 11) + rm.locals ≤ R.locals) (hcell : cells + rm.cells ≤ R.cells ∧ slots + rm.slots ≤ R.slots) (hP : zP G (X ++ pl) H) (hD : va_D A0 (X ++ pl)) (hS : va_S A0 H0 H locs) (hA : ∀ q, H0.size ≤ q → A0 q) (isC isR : List Nat) (hC : isC.map (fun i => X[i]?) = wc.map some) (hRr : isR.map (fun i => X[i]?) = wr.map some) (hnC : va_nd isC = true) (hnR : va_nd isR = true) (hdis : ∀ i ∈ isR, i ∉ isC) (hn : As.length = n) (hls : ls.size = nL) (hst : st0 = As.reverse ++ .ref b :: rest) (hrest : (rest.map fun v => v.category).sum ≤ 8) (hd : decode cc pc = .ok (.invokespecial index, 3))
    (k : ∀ (u : S) (H : Heap) (locs : List Loc), ok u → zP G ((wr ++ ws2 u) ++ pl) H → va_D A0 ((wr ++ ws2 u) ++ pl) → va_S A0 H0 H locs → W p l e R s m args below meth c H locs (cells + rm.cells) (slots + rm.slots) Q (F0 m (pc + 3) ls rest)) : W p l e R s m args below meth c H locs cells slots Q (F0 m pc ls st0) := by
  obtain ⟨k1, k2, k3, k5, k6, k7, k8, k9⟩ := kc
  have hDx := zD_left hD
  have hPc : zP G wc H := (zP_left hP).sub isC (fm_map (wc := wc) isC wc hC)
  have hDc := hDx.sub isC hnC hC
  have hFc := va_free hDx hS hA isC hC
  refine va_callv (va_runI (As := As) (rest := rest) (g := F0 m pc ls st0) ⟨hx, hb, hml, hown, hT⟩ (hM H.size) ⟨callB_of n hT (TB_self k1) rfl rfl rfl (hT _ k5) (hT _ k2) ⟨k7, k8, k9⟩ hR, k6, hT _ k3⟩ ⟨zPw_blind G _ _ _, fun U hU hW => ⟨rfl, by rw [hU], by rw [hU]; exact hPc, va_K.moved hW.alike hK, hDc.weaken (fun _ _ _ _ => trivial)⟩⟩ rfl hn hls hst (lv_room hrest) hd hcell) hS (fun q _ h => hFc q h) hFc (fun u t H1 locs1 ht hvm hw hB hz1 hk1 hS1 => ?_)
  obtain ⟨hP1, hK1, hD1⟩ := hB
  rw [ht] at hP1
  obtain ⟨hP2, hD2⟩ := va_joinQ hP hD isC isR hC hRr hnR hdis hk1 hFc hP1 hD1
  exact k u H1 locs1 hw hP2 hD2 hS1
theorem z_wri {A : Nat → Prop} {S : Type} {v : S → Int} {ok : S → Prop} {ws2 : S → va_W} {val : Int} (u : S) (hx : p.tables.exec = Jvm.exec) (hb : c.code = cc) (hr : meth.sig.returnType = some .int) (hlocks : meth.locks = false) (hK : zK G s) (hP : zP G (ws2 u) H) (hD : va_D A (ws2 u)) (hS : va_S A s.heap H locs) (hok : ok u) (hv : val = v u) (hd : decode cc pc = .ok (.ireturn, 1)) : W p l e R s m args below meth c H locs cells slots (MQ below (va_Qi (fun r u => r = zI (v u) ∧ ok u) (zB G A ws2) A) args s cells slots A) (F0 m pc ls [.int (zI val)]) :=
  W.iret hx hb hr (fun t ht hW => ⟨⟨_, u, rfl, ⟨by rw [hv], hok⟩, by rw [ht]; exact hP, va_K.moved hW.alike hK, hD⟩, hS.F ht⟩) hS.2.2 hd hlocks
theorem z_wrv {A : Nat → Prop} {S : Type} {ok : S → Prop} {ws2 : S → va_W} (u : S) (hx : p.tables.exec = Jvm.exec) (hb : c.code = cc) (hr : meth.sig.returnType = none) (hlocks : meth.locks = false) (hK : zK G s) (hP : zP G (ws2 u) H) (hD : va_D A (ws2 u)) (hS : va_S A s.heap H locs) (hok : ok u) (hd : decode cc pc = .ok (.return_, 1)) : W p l e R s m args below meth c H locs cells slots (MQ below (va_Qv (fun u => ok u) (zB G A ws2) A) args s cells slots A) (F0 m pc ls []) :=
  W.vret hx hb hr (fun t ht hW => ⟨⟨u, rfl, hok, by rw [ht]; exact hP, va_K.moved hW.alike hK, hD⟩, hS.F ht⟩) hS.2.2 hd hlocks
theorem z_cutH {σ : Type} {A : Nat → Prop} {g : JFrame} (fr : σ → JFrame) (I : σ → Prop) (ws : σ → va_W) (hJ : ∀ a (H : Heap) (locs : List Loc), I a → zP G (ws a) H → va_D A (ws a) → va_S A H0 H locs → W p l e R s m args below meth c H locs cells slots Q (fr a)) (h : (∀ a (H : Heap) (locs : List Loc), I a → zP G (ws a) H → va_D A (ws a) → va_S A H0 H locs → W p l e R s m args below meth c H locs cells slots Q (fr a)) → W p l e R s m args below meth c H locs cells slots Q g) : W p l e R s m args below meth c H locs cells slots Q g := h hJ
theorem z_loopH {σ : Type} {A : Nat → Prop} (fr : σ → JFrame) (I : σ → Prop) (ws : σ → va_W) (μ : σ → Nat) (hs : ∀ a (H : Heap) (locs : List Loc), I a → zP G (ws a) H → va_D A (ws a) → va_S A H0 H locs → (∀ b (H : Heap) (locs : List Loc), I b → μ b < μ a → zP G (ws b) H → va_D A (ws b) → va_S A H0 H locs → W p l e R s m args below meth c H locs cells slots Q (fr b)) → W p l e R s m args below meth c H locs cells slots Q (fr a)) (a : σ) (h : I a) (hP : zP G (ws a) H) (hD : va_D A (ws a)) (hS : va_S A H0 H locs) : W p l e R s m args below meth c H locs cells slots Q (fr a) := by
  have key : ∀ n a (H : Heap) (locs : List Loc), I a → μ a < n → zP G (ws a) H → va_D A (ws a) → va_S A H0 H locs → W p l e R s m args below meth c H locs cells slots Q (fr a) := by
    intro n
    induction n with
    | zero => intro a _ _ _ h; exact absurd h (Nat.not_lt_zero _)
    | succ n ih => intro a H locs ha hn h1 h2 h3; exact hs a H locs ha h1 h2 h3 (fun b H locs hb hlt h1 h2 h3 => ih b H locs hb (by omega) h1 h2 h3)
  exact key (μ a + 1) a H locs h (Nat.lt_succ_self _) hP hD hS
/-- an array's contents matter within its length alone -/
theorem ia_eq {n a : Nat} {f g : Int → Int} (h : ∀ j : Int, 0 ≤ j → j < n → f j = g j) {H : Heap} (hP : va_at G.1 vwCl (ia G a n f) H) : va_at G.1 vwCl (ia G a n g) H := by
  have e1 : vp_cell G.2.1 (n, .inl (zA f)) = vp_cell G.2.1 (n, .inl (zA g)) := by
    have e2 : ∀ j : Nat, j < n → zA f j = zA g j := fun j hj => by unfold zA; rw [h j (by omega) (by omega)]
    have e3 : (fun j : Fin n => Value.int (zA f j.val)) = fun j : Fin n => Value.int (zA g j.val) := by funext j; rw [e2 j.val j.isLt]
    show arrV G.2.1 n (fun j => .int (zA f j)) = arrV G.2.1 n (fun j => .int (zA g j))
    unfold arrV; rw [e3]
  have h1 : H[a]? = some (vp_cell G.2.1 (n, .inl (zA f))) := hP
  show H[a]? = some (vp_cell G.2.1 (n, .inl (zA g)))
  rw [← e1]; exact h1
end ZW
