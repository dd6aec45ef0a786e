theorem fa1 {α : Type} {P : α → Prop} {a : α} (h : P a) : ∀ z ∈ [a], P z := fun z hz => by rw [List.mem_singleton.mp hz]; exact h
theorem fa2 {α : Type} {P : α → Prop} {a b : α} (h : P a) (h2 : P b) : ∀ z ∈ [a, b], P z := fun z hz => by
  rcases List.mem_cons.mp hz with q | q
  · rw [q]; exact h
  · rw [List.mem_singleton.mp q]; exact h2
theorem zD_right {A : Nat → Prop} {a b : va_W} (h : va_D A (a ++ b)) : va_D A b := by
  have key : ∀ (k : Nat) (q : Nat × va_E), b[k]? = some q → (a ++ b)[a.length + k]? = some q := fun k q hk => by
    rw [List.getElem?_append_right (by omega), show a.length + k - a.length = k by omega]; exact hk
  refine ⟨fun i j p q hi hj e => ?_, fun k q hk => h.2 _ q (key k q hk)⟩
  have := h.1 _ _ p q (key i p hi) (key j q hj) e
  omega
theorem z_i2lw {p : Program} {l : Launch} {e : Env} {R : Room} {s : State} {m : MethodId} {args : Array Value} {below : List Frame} {meth : Method} {c : Code} {H : Heap} {locs : List Loc} {cells slots : Nat} {Q : State → Prop} {cc : ByteArray} {pc : Nat} {ls : Array Slot} {rest : List Value} (hx : p.tables.exec = Jvm.exec) (hb : c.code = cc) {a : Int} (hd : decode cc pc = .ok (.i2l, 1)) (k : W p l e R s m args below meth c H locs cells slots Q (F0 m (pc + 1) ls (.long (zL (zI a).toInt) :: rest))) : W p l e R s m args below meth c H locs cells slots Q (F0 m pc ls (.int (zI a) :: rest)) := by
  have e1 : zI (zI a).toInt = zI a := zI_of (zI a)
  rw [← e1]
  exact z_i2l hx hb hd (zI_rng _) k

set_option maxHeartbeats 4000000 in
set_option maxRecDepth 100000 in
theorem c_L_ink (l : Launch) (hst : l.stackTraces = false) (G : zG) (xx pg ik mx co pa cv ca cb ar : Nat) (nx w h pts cnt most rch : Int) (M C P : Int → Int) (cc : Int) (L V : Int → Int) (cs : List cT) (a1 a2 a3 a4 : Int) (oa : Nat) (ov : Int) (hp : pgOK w h pts cnt most rch M C P) (hvv : cvOK cc L V) (hnx : 0 ≤ nx ∧ nx ≤ 6) (hcs : csOK cs) (hnl : nx = (cs.length : Int)) (ha1 : -2147483648 ≤ a1 ∧ a1 ≤ 2147483647) (ha2 : -2147483648 ≤ a2 ∧ a2 ≤ 2147483647) (ha3 : -2147483648 ≤ a3 ∧ a3 ≤ 2147483647) (ha4 : -2147483648 ≤ a4 ∧ a4 ≤ 2147483647) : zWh l yL_ink cL_ink 7 (some .int) [(0, 14, 17, 13), (0, 14, 21, 15)] { frames := 7, cells := 1, slots := 6, locals := 106 } G [.ref xx, .int (zI (a1)), .int (zI (a2)), .int (zI (a3)), .int (zI (a4)), .ref oa] ((ol G oa (ov) :: xL G xx pg ik mx co pa cv ca cb ar nx w h pts cnt most rch M C P cc L V (Fof cs)) ++ clAll G cs) (S := Unit) (fun u => (cInk a1 a2 a3 a4 cnt)) (fun u => True) (fun u => if (cInk a1 a2 a3 a4 cnt) = 0 then (ol G oa ((zI (cnt)).toInt) :: xL G xx pg ik mx co pa cv ca cb ar nx w h pts (cnt + 1) most rch (zu (zu (zu (zu M (cnt * 4) a1) (cnt * 4 + 1) a2) (cnt * 4 + 2) a3) (cnt * 4 + 3) a4) C P cc L V (Fof cs)) ++ clAll G cs else (ol G oa (ov) :: xL G xx pg ik mx co pa cv ca cb ar nx w h pts cnt most rch M C P cc L V (Fof cs)) ++ clAll G cs) := by
  intro sz
  refine va_MetW (cc := cL_ink) (maxL := 7) (ret := (some .int)) (hh := [(0, 14, 17, 13), (0, 14, 21, 15)]) (by decide) rfl ?_
  intro p e s m args below meth c s₁ B hml hv
  obtain ⟨rfl, hsz, hP, hK, hD0, hX, hN⟩ := hv
  have hx := B.exec
  have hb := B.bytes
  have hr := B.returns
  have hT : ∀ w ∈ TB, w.before _ s = true := fun w h => atoms_spec (ws := Cond.codeWith yL_ink cL_ink 7 (some .int) [(0, 14, 17, 13), (0, 14, 21, 15)] :: TB) B.pre w (List.mem_cons_of_mem _ h)
  have hcw := atoms_spec (ws := Cond.codeWith yL_ink cL_ink 7 (some .int) [(0, 14, 17, 13), (0, 14, 21, 15)] :: TB) B.pre _ List.mem_cons_self
  have htab := vx_table (x := yL_ink) B hcw
  have hown : s.vm.findClass RL = some m.cls := findClass_of_methodNamed B.named
  have hlocks := B.notSynchronized
  subst hsz
  have hD := hD0.self (sz := s.heap.size)
  generalize hAe : va_A ((ol G oa (ov) :: xL G xx pg ik mx co pa cv ca cb ar nx w h pts cnt most rch M C P cc L V (Fof cs)) ++ clAll G cs) s.heap.size = A at hD hX ⊢
  have hA : ∀ q : Nat, s.heap.size ≤ q → A q := fun q h => by rw [← hAe]; exact Or.inr h
  have hS : va_S A s.heap s.heap [] := va_S.rf
  have hP : zP G ((ol G oa (ov) :: xL G xx pg ik mx co pa cv ca cb ar nx w h pts cnt most rch M C P cc L V (Fof cs)) ++ clAll G cs) s.heap := hP
  have hD : va_D A ((ol G oa (ov) :: xL G xx pg ik mx co pa cv ca cb ar nx w h pts cnt most rch M C P cc L V (Fof cs)) ++ clAll G cs) := hD
  have hl := lv_entry ([.ref xx, .int (zI (a1)), .int (zI (a2)), .int (zI (a3)), .int (zI (a4)), .ref oa]) (n := 7) (Nat.le_of_ble_eq_true rfl)
  rw [lg_entry_eq]
  generalize (lg_sl ([.ref xx, .int (zI (a1)), .int (zI (a2)), .int (zI (a3)), .int (zI (a4)), .ref oa]) ++ List.replicate (7 - (lg_sl ([.ref xx, .int (zI (a1)), .int (zI (a2)), .int (zI (a3)), .int (zI (a4)), .ref oa])).length) Slot.unset).toArray = ls at hl ⊢
  have hl : lv_has ls 7 [(0, .ref xx), (1, .int (zI (a1))), (2, .int (zI (a2))), (3, .int (zI (a3))), (4, .int (zI (a4))), (5, .ref oa)] := hl
  obtain ⟨hw, hh, hpts, hcnt, hmost, hrch, hM, hC, hB⟩ := id hp
  have hpt := pgOK_pts hp
  obtain ⟨hcc, hL0, hLe, hLs, hLb, hVb⟩ := id hvv
  have hPx : zP G (xL G xx pg ik mx co pa cv ca cb ar nx w h pts cnt most rch M C P cc L V (Fof cs)) s.heap := (zP_left hP).sub [1, 2, 3, 4, 5, 6, 7, 8, 9, 10] rfl
  have hDx : va_D (fun _ => True) (xL G xx pg ik mx co pa cv ca cb ar nx w h pts cnt most rch M C P cc L V (Fof cs)) := (zD_left hD0).sub [1, 2, 3, 4, 5, 6, 7, 8, 9, 10] (by decide) rfl
  have hsubx : ∀ q, va_A (xL G xx pg ik mx co pa cv ca cb ar nx w h pts cnt most rch M C P cc L V (Fof cs)) s.heap.size q → A q := va_free (zD_left hD) hS hA [1, 2, 3, 4, 5, 6, 7, 8, 9, 10] rfl
  refine lv_aload hx hb dL_ink_0 (lv_at hl 5 rfl) ?_
  refine z_iconst hx hb dL_ink_2 ?_
  refine lv_aload_n hx hb dL_ink_3 rfl (lv_at hl 0 rfl) ?_
  refine lv_iload_n hx hb dL_ink_4 rfl (lv_at hl 1 rfl) ?_
  refine lv_iload_n hx hb dL_ink_5 rfl (lv_at hl 2 rfl) ?_
  refine lv_iload_n hx hb dL_ink_6 rfl (lv_at hl 3 rfl) ?_
  refine lv_iload hx hb dL_ink_7 (lv_at hl 4 rfl) ?_
  refine z_hi (G := G) (q0 := 0) (As := [.int (zI (a1)), .int (zI (a2)), .int (zI (a3)), .int (zI (a4))]) (rest := [.int (zI (0)), .ref oa]) hx hb hml hown hT hK hX (c_X4_ink l hst G xx pg ik mx co pa cv ca cb ar nx w h pts cnt most rch M C P cc L V (Fof cs) a1 a2 a3 a4 hp hvv hnx (by omega) (by omega) (by omega) (by omega)) kc_L_7 ⟨Nat.le_of_ble_eq_true rfl, Nat.le_of_ble_eq_true rfl⟩ ⟨Nat.le_of_ble_eq_true rfl, Nat.le_of_ble_eq_true rfl⟩ hPx hDx hsubx rfl rfl rfl rfl hl.1 rfl (Nat.le_of_ble_eq_true rfl) dL_ink_9 (fun E9 ce9 q9 H locs hE hk9 hS hce hcv hcl => ?_) (fun u9 H locs hok9 hk9 hP9 hD9 hS => ?_)
  · skip
    have hP : zP G ((ol G oa (ov) :: xL G xx pg ik mx co pa cv ca cb ar nx w h pts cnt most rch M C P cc L V (Fof cs)) ++ clAll G cs) H := va_P.kept hP (fun k9 q8 hq8 => hk9 _ (hP k9 q8 hq8).lt)
    rcases hE with ⟨rfl, hcd⟩ | ⟨rfl, hcd⟩
    · skip
      refine tc_catch (name := "java/lang/IllegalArgumentException") hown [] ⟨0, 14, 17, 13⟩ [⟨0, 14, 21, 15⟩] (htab.trans rfl) (fun z hz => nomatch hz) rfl (by decide) (hT _ (mT 176 (by decide +kernel) rfl)) (va_Nw.use (w := Cond.castable "java/lang/IllegalArgumentException" "java/lang/IllegalArgumentException") (ng_on _ (by decide +kernel)) (hX.2.2.2 _ (by decide +kernel))) hce hcv hcl ?_
      refine W.eq (g2 := F0 m 17 ls [.ref q9]) rfl ?_
      refine lv_astore (lv' := [(6, .ref q9), (0, .ref xx), (1, .int (zI (a1))), (2, .int (zI (a2))), (3, .int (zI (a3))), (4, .int (zI (a4))), (5, .ref oa)]) hx hb dL_ink_17 hl (by decide) rfl (fun ls hl => ?_)
      refine z_iconst hx hb dL_ink_19 ?_
      refine W.widen (k := 1) (n := 6) (Nat.le_of_ble_eq_true rfl) (Nat.le_of_ble_eq_true rfl) ?_
      exact z_wri () hx hb hr hlocks hK (by rw [if_neg (by rw [hcd]; decide)]; exact hP) (by rw [if_neg (by rw [hcd]; decide)]; exact hD) hS (trivial) (hcd.symm) dL_ink_20
    · skip
      refine tc_catch (name := "java/lang/UnsupportedOperationException") hown [(⟨0, 14, 17, 13⟩, "java/lang/IllegalArgumentException")] ⟨0, 14, 21, 15⟩ [] (htab.trans rfl) (fa1 ⟨rfl, by decide, hT _ (mT 176 (by decide +kernel) rfl), hN _ (by decide) _ (by decide) (by decide)⟩) rfl (by decide) (hT _ (mT 177 (by decide +kernel) rfl)) (va_Nw.use (w := Cond.castable "java/lang/UnsupportedOperationException" "java/lang/UnsupportedOperationException") (ng_on _ (by decide +kernel)) (hX.2.2.2 _ (by decide +kernel))) hce hcv hcl ?_
      refine W.eq (g2 := F0 m 21 ls [.ref q9]) rfl ?_
      refine lv_astore (lv' := [(6, .ref q9), (0, .ref xx), (1, .int (zI (a1))), (2, .int (zI (a2))), (3, .int (zI (a3))), (4, .int (zI (a4))), (5, .ref oa)]) hx hb dL_ink_21 hl (by decide) rfl (fun ls hl => ?_)
      refine z_iconst hx hb dL_ink_23 ?_
      refine W.widen (k := 1) (n := 6) (Nat.le_of_ble_eq_true rfl) (Nat.le_of_ble_eq_true rfl) ?_
      exact z_wri () hx hb hr hlocks hK (by rw [if_neg (by rw [hcd]; decide)]; exact hP) (by rw [if_neg (by rw [hcd]; decide)]; exact hD) hS (trivial) (hcd.symm) dL_ink_24
  · skip
    have hcd : (cInk a1 a2 a3 a4 cnt) = 0 := hok9
    obtain ⟨hP, hD⟩ := va_joinQ (X := ol G oa ov :: xL G xx pg ik mx co pa cv ca cb ar nx w h pts cnt most rch M C P cc L V (Fof cs)) (pl := clAll G cs) (wr := [ol G oa ov]) hP hD [1, 2, 3, 4, 5, 6, 7, 8, 9, 10] [0] rfl rfl rfl (by decide) hk9 hsubx hP9 hD9
    have hP : zP G ((ol G oa (ov) :: xL G xx pg ik mx co pa cv ca cb ar nx w h pts (cnt + 1) most rch (zu (zu (zu (zu M (cnt * 4) a1) (cnt * 4 + 1) a2) (cnt * 4 + 2) a3) (cnt * 4 + 3) a4) C P cc L V (Fof cs)) ++ clAll G cs) H := hP
    have hD : va_D A ((ol G oa (ov) :: xL G xx pg ik mx co pa cv ca cb ar nx w h pts (cnt + 1) most rch (zu (zu (zu (zu M (cnt * 4) a1) (cnt * 4 + 1) a2) (cnt * 4 + 2) a3) (cnt * 4 + 3) a4) C P cc L V (Fof cs)) ++ clAll G cs) := hD
    refine z_i2lw hx hb dL_ink_12 ?_
    refine z_last (ws' := (ol G oa ((zI (cnt)).toInt) :: xL G xx pg ik mx co pa cv ca cb ar nx w h pts (cnt + 1) most rch (zu (zu (zu (zu M (cnt * 4) a1) (cnt * 4 + 1) a2) (cnt * 4 + 2) a3) (cnt * 4 + 3) a4) C P cc L V (Fof cs)) ++ clAll G cs) hx hb hK hP hD hS 0 rfl dL_ink_13 rfl (fun H locs hP hD hS => ?_)
    refine z_goto (tgt := 25) hx hb dL_ink_14 (by decide) ?_
    refine z_iconst hx hb dL_ink_25 ?_
    refine W.widen (k := 1) (n := 6) (Nat.le_of_ble_eq_true rfl) (Nat.le_of_ble_eq_true rfl) ?_
    exact z_wri () hx hb hr hlocks hK (by rw [if_pos hcd]; exact hP) (by rw [if_pos hcd]; exact hD) hS (trivial) (hcd.symm) dL_ink_26

set_option maxHeartbeats 4000000 in
set_option maxRecDepth 100000 in
theorem c_L_colour (l : Launch) (hst : l.stackTraces = false) (G : zG) (xx pg ik mx co pa cv ca cb ar : Nat) (nx w h pts cnt most rch : Int) (M C P : Int → Int) (cc : Int) (L V : Int → Int) (cs : List cT) (k v : Int) (oa : Nat) (ov : Int) (hp : pgOK w h pts cnt most rch M C P) (hvv : cvOK cc L V) (hnx : 0 ≤ nx ∧ nx ≤ 6) (hcs : csOK cs) (hnl : nx = (cs.length : Int)) (hk : -2147483648 ≤ k ∧ k ≤ 2147483647) (hv : -2147483648 ≤ v ∧ v ≤ 2147483647) : zWh l yL_colour cL_colour 4 (some .int) [(0, 6, 9, 13), (0, 6, 12, 21)] { frames := 9, cells := 1, slots := 6, locals := 138 } G [.ref xx, .int (zI (k)), .int (zI (v))] ((ol G oa (ov) :: xL G xx pg ik mx co pa cv ca cb ar nx w h pts cnt most rch M C P cc L V (Fof cs)) ++ clAll G cs) (S := Unit) (fun u => (cCol k v cnt)) (fun u => True) (fun u => if (cCol k v cnt) = 0 then (ol G oa (ov) :: xL G xx pg ik mx co pa cv ca cb ar nx w h pts cnt most rch M (zu C k v) P cc L V (Fof cs)) ++ clAll G cs else (ol G oa (ov) :: xL G xx pg ik mx co pa cv ca cb ar nx w h pts cnt most rch M C P cc L V (Fof cs)) ++ clAll G cs) := by
  intro sz
  refine va_MetW (cc := cL_colour) (maxL := 4) (ret := (some .int)) (hh := [(0, 6, 9, 13), (0, 6, 12, 21)]) (by decide) rfl ?_
  intro p e s m args below meth c s₁ B hml hv
  obtain ⟨rfl, hsz, hP, hK, hD0, hX, hN⟩ := hv
  have hx := B.exec
  have hb := B.bytes
  have hr := B.returns
  have hT : ∀ w ∈ TB, w.before _ s = true := fun w h => atoms_spec (ws := Cond.codeWith yL_colour cL_colour 4 (some .int) [(0, 6, 9, 13), (0, 6, 12, 21)] :: TB) B.pre w (List.mem_cons_of_mem _ h)
  have hcw := atoms_spec (ws := Cond.codeWith yL_colour cL_colour 4 (some .int) [(0, 6, 9, 13), (0, 6, 12, 21)] :: TB) B.pre _ List.mem_cons_self
  have htab := vx_table (x := yL_colour) B hcw
  have hown : s.vm.findClass RL = some m.cls := findClass_of_methodNamed B.named
  have hlocks := B.notSynchronized
  subst hsz
  have hD := hD0.self (sz := s.heap.size)
  generalize hAe : va_A ((ol G oa (ov) :: xL G xx pg ik mx co pa cv ca cb ar nx w h pts cnt most rch M C P cc L V (Fof cs)) ++ clAll G cs) s.heap.size = A at hD hX ⊢
  have hA : ∀ q : Nat, s.heap.size ≤ q → A q := fun q h => by rw [← hAe]; exact Or.inr h
  have hS : va_S A s.heap s.heap [] := va_S.rf
  have hP : zP G ((ol G oa (ov) :: xL G xx pg ik mx co pa cv ca cb ar nx w h pts cnt most rch M C P cc L V (Fof cs)) ++ clAll G cs) s.heap := hP
  have hD : va_D A ((ol G oa (ov) :: xL G xx pg ik mx co pa cv ca cb ar nx w h pts cnt most rch M C P cc L V (Fof cs)) ++ clAll G cs) := hD
  have hl := lv_entry ([.ref xx, .int (zI (k)), .int (zI (v))]) (n := 4) (Nat.le_of_ble_eq_true rfl)
  rw [lg_entry_eq]
  generalize (lg_sl ([.ref xx, .int (zI (k)), .int (zI (v))]) ++ List.replicate (4 - (lg_sl ([.ref xx, .int (zI (k)), .int (zI (v))])).length) Slot.unset).toArray = ls at hl ⊢
  have hl : lv_has ls 4 [(0, .ref xx), (1, .int (zI (k))), (2, .int (zI (v)))] := hl
  obtain ⟨hw, hh, hpts, hcnt, hmost, hrch, hM, hC, hB⟩ := id hp
  have hpt := pgOK_pts hp
  obtain ⟨hcc, hL0, hLe, hLs, hLb, hVb⟩ := id hvv
  have hPx : zP G (xL G xx pg ik mx co pa cv ca cb ar nx w h pts cnt most rch M C P cc L V (Fof cs)) s.heap := (zP_left hP).sub [1, 2, 3, 4, 5, 6, 7, 8, 9, 10] rfl
  have hDx : va_D (fun _ => True) (xL G xx pg ik mx co pa cv ca cb ar nx w h pts cnt most rch M C P cc L V (Fof cs)) := (zD_left hD0).sub [1, 2, 3, 4, 5, 6, 7, 8, 9, 10] (by decide) rfl
  have hsubx : ∀ q, va_A (xL G xx pg ik mx co pa cv ca cb ar nx w h pts cnt most rch M C P cc L V (Fof cs)) s.heap.size q → A q := va_free (zD_left hD) hS hA [1, 2, 3, 4, 5, 6, 7, 8, 9, 10] rfl
  refine lv_aload_n hx hb dL_colour_0 rfl (lv_at hl 0 rfl) ?_
  refine lv_iload_n hx hb dL_colour_1 rfl (lv_at hl 1 rfl) ?_
  refine lv_iload_n hx hb dL_colour_2 rfl (lv_at hl 2 rfl) ?_
  refine z_hv (G := G) (q0 := 0) (As := [.int (zI (k)), .int (zI (v))]) (rest := []) hx hb hml hown hT hK hX (c_X4_colour l hst G xx pg ik mx co pa cv ca cb ar nx w h pts cnt most rch M C P cc L V (Fof cs) k v hp hvv hnx (by omega) (by omega)) kc_L_17 ⟨Nat.le_of_ble_eq_true rfl, Nat.le_of_ble_eq_true rfl⟩ ⟨Nat.le_of_ble_eq_true rfl, Nat.le_of_ble_eq_true rfl⟩ hPx hDx hsubx rfl rfl rfl rfl hl.1 rfl (Nat.le_of_ble_eq_true rfl) dL_colour_3 (fun E9 ce9 q9 H locs hE hk9 hS hce hcv hcl => ?_) (fun u9 H locs hok9 hk9 hP9 hD9 hS => ?_)
  · skip
    have hP : zP G ((ol G oa (ov) :: xL G xx pg ik mx co pa cv ca cb ar nx w h pts cnt most rch M C P cc L V (Fof cs)) ++ clAll G cs) H := va_P.kept hP (fun k9 q8 hq8 => hk9 _ (hP k9 q8 hq8).lt)
    rcases hE with ⟨rfl, hcd⟩ | ⟨rfl, hcd⟩
    · skip
      refine tc_catch (name := "java/lang/IllegalArgumentException") hown [] ⟨0, 6, 9, 13⟩ [⟨0, 6, 12, 21⟩] (htab.trans rfl) (fun z hz => nomatch hz) rfl (by decide) (hT _ (mT 176 (by decide +kernel) rfl)) (va_Nw.use (w := Cond.castable "java/lang/IllegalArgumentException" "java/lang/IllegalArgumentException") (ng_on _ (by decide +kernel)) (hX.2.2.2 _ (by decide +kernel))) hce hcv hcl ?_
      refine W.eq (g2 := F0 m 9 ls [.ref q9]) rfl ?_
      refine lv_astore_n (lv' := [(3, .ref q9), (0, .ref xx), (1, .int (zI (k))), (2, .int (zI (v)))]) hx hb dL_colour_9 rfl hl (by decide) rfl (fun ls hl => ?_)
      refine z_iconst hx hb dL_colour_10 ?_
      refine W.widen (k := 1) (n := 6) (Nat.le_of_ble_eq_true rfl) (Nat.le_of_ble_eq_true rfl) ?_
      exact z_wri () hx hb hr hlocks hK (by rw [if_neg (by rw [hcd]; decide)]; exact hP) (by rw [if_neg (by rw [hcd]; decide)]; exact hD) hS (trivial) (hcd.symm) dL_colour_11
    · skip
      refine tc_catch (name := "java/lang/ArrayIndexOutOfBoundsException") hown [(⟨0, 6, 9, 13⟩, "java/lang/IllegalArgumentException")] ⟨0, 6, 12, 21⟩ [] (htab.trans rfl) (fa1 ⟨rfl, by decide, hT _ (mT 176 (by decide +kernel) rfl), hN _ (by decide) _ (by decide) (by decide)⟩) rfl (by decide) (hT _ (mT 277 (by decide +kernel) rfl)) (va_Nw.use (w := Cond.castable "java/lang/ArrayIndexOutOfBoundsException" "java/lang/ArrayIndexOutOfBoundsException") (ng_on _ (by decide +kernel)) (hX.2.2.2 _ (by decide +kernel))) hce hcv hcl ?_
      refine W.eq (g2 := F0 m 12 ls [.ref q9]) rfl ?_
      refine lv_astore_n (lv' := [(3, .ref q9), (0, .ref xx), (1, .int (zI (k))), (2, .int (zI (v)))]) hx hb dL_colour_12 rfl hl (by decide) rfl (fun ls hl => ?_)
      refine z_iconst hx hb dL_colour_13 ?_
      refine W.widen (k := 1) (n := 6) (Nat.le_of_ble_eq_true rfl) (Nat.le_of_ble_eq_true rfl) ?_
      exact z_wri () hx hb hr hlocks hK (by rw [if_neg (by rw [hcd]; decide)]; exact hP) (by rw [if_neg (by rw [hcd]; decide)]; exact hD) hS (trivial) (hcd.symm) dL_colour_14
  · skip
    have hcd : (cCol k v cnt) = 0 := hok9
    obtain ⟨hP, hD⟩ := va_joinQ (X := ol G oa ov :: xL G xx pg ik mx co pa cv ca cb ar nx w h pts cnt most rch M C P cc L V (Fof cs)) (pl := clAll G cs) (wr := [ol G oa ov]) hP hD [1, 2, 3, 4, 5, 6, 7, 8, 9, 10] [0] rfl rfl rfl (by decide) hk9 hsubx hP9 hD9
    have hP : zP G ((ol G oa (ov) :: xL G xx pg ik mx co pa cv ca cb ar nx w h pts cnt most rch M (zu C k v) P cc L V (Fof cs)) ++ clAll G cs) H := hP
    have hD : va_D A ((ol G oa (ov) :: xL G xx pg ik mx co pa cv ca cb ar nx w h pts cnt most rch M (zu C k v) P cc L V (Fof cs)) ++ clAll G cs) := hD
    refine z_goto (tgt := 15) hx hb dL_colour_6 (by decide) ?_
    refine z_iconst hx hb dL_colour_15 ?_
    refine W.widen (k := 1) (n := 6) (Nat.le_of_ble_eq_true rfl) (Nat.le_of_ble_eq_true rfl) ?_
    exact z_wri () hx hb hr hlocks hK (by rw [if_pos hcd]; exact hP) (by rw [if_pos hcd]; exact hD) hS (trivial) (hcd.symm) dL_colour_16

set_option maxHeartbeats 4000000 in
set_option maxRecDepth 100000 in
theorem c_L_limit (l : Launch) (hst : l.stackTraces = false) (G : zG) (xx pg ik mx co pa cv ca cb ar : Nat) (nx w h pts cnt most rch : Int) (M C P : Int → Int) (cc : Int) (L V : Int → Int) (cs : List cT) (v : Int) (oa : Nat) (ov : Int) (hp : pgOK w h pts cnt most rch M C P) (hvv : cvOK cc L V) (hnx : 0 ≤ nx ∧ nx ≤ 6) (hcs : csOK cs) (hnl : nx = (cs.length : Int)) (hv : -2147483648 ≤ v ∧ v ≤ 2147483647) : zWh l yL_limit cL_limit 4 (some .int) [(0, 9, 12, 13)] { frames := 7, cells := 1, slots := 6, locals := 104 } G [.ref xx, .int (zI (v)), .ref oa] ((ol G oa (ov) :: xL G xx pg ik mx co pa cv ca cb ar nx w h pts cnt most rch M C P cc L V (Fof cs)) ++ clAll G cs) (S := Unit) (fun u => (cLim v)) (fun u => True) (fun u => if (cLim v) = 0 then (ol G oa ((zI (most)).toInt) :: xL G xx pg ik mx co pa cv ca cb ar nx w h pts cnt v rch M C P cc L V (Fof cs)) ++ clAll G cs else (ol G oa (ov) :: xL G xx pg ik mx co pa cv ca cb ar nx w h pts cnt most rch M C P cc L V (Fof cs)) ++ clAll G cs) := by
  intro sz
  refine va_MetW (cc := cL_limit) (maxL := 4) (ret := (some .int)) (hh := [(0, 9, 12, 13)]) (by decide) rfl ?_
  intro p e s m args below meth c s₁ B hml hv
  obtain ⟨rfl, hsz, hP, hK, hD0, hX, hN⟩ := hv
  have hx := B.exec
  have hb := B.bytes
  have hr := B.returns
  have hT : ∀ w ∈ TB, w.before _ s = true := fun w h => atoms_spec (ws := Cond.codeWith yL_limit cL_limit 4 (some .int) [(0, 9, 12, 13)] :: TB) B.pre w (List.mem_cons_of_mem _ h)
  have hcw := atoms_spec (ws := Cond.codeWith yL_limit cL_limit 4 (some .int) [(0, 9, 12, 13)] :: TB) B.pre _ List.mem_cons_self
  have htab := vx_table (x := yL_limit) B hcw
  have hown : s.vm.findClass RL = some m.cls := findClass_of_methodNamed B.named
  have hlocks := B.notSynchronized
  subst hsz
  have hD := hD0.self (sz := s.heap.size)
  generalize hAe : va_A ((ol G oa (ov) :: xL G xx pg ik mx co pa cv ca cb ar nx w h pts cnt most rch M C P cc L V (Fof cs)) ++ clAll G cs) s.heap.size = A at hD hX ⊢
  have hA : ∀ q : Nat, s.heap.size ≤ q → A q := fun q h => by rw [← hAe]; exact Or.inr h
  have hS : va_S A s.heap s.heap [] := va_S.rf
  have hP : zP G ((ol G oa (ov) :: xL G xx pg ik mx co pa cv ca cb ar nx w h pts cnt most rch M C P cc L V (Fof cs)) ++ clAll G cs) s.heap := hP
  have hD : va_D A ((ol G oa (ov) :: xL G xx pg ik mx co pa cv ca cb ar nx w h pts cnt most rch M C P cc L V (Fof cs)) ++ clAll G cs) := hD
  have hl := lv_entry ([.ref xx, .int (zI (v)), .ref oa]) (n := 4) (Nat.le_of_ble_eq_true rfl)
  rw [lg_entry_eq]
  generalize (lg_sl ([.ref xx, .int (zI (v)), .ref oa]) ++ List.replicate (4 - (lg_sl ([.ref xx, .int (zI (v)), .ref oa])).length) Slot.unset).toArray = ls at hl ⊢
  have hl : lv_has ls 4 [(0, .ref xx), (1, .int (zI (v))), (2, .ref oa)] := hl
  obtain ⟨hw, hh, hpts, hcnt, hmost, hrch, hM, hC, hB⟩ := id hp
  have hpt := pgOK_pts hp
  obtain ⟨hcc, hL0, hLe, hLs, hLb, hVb⟩ := id hvv
  have hPx : zP G (xL G xx pg ik mx co pa cv ca cb ar nx w h pts cnt most rch M C P cc L V (Fof cs)) s.heap := (zP_left hP).sub [1, 2, 3, 4, 5, 6, 7, 8, 9, 10] rfl
  have hDx : va_D (fun _ => True) (xL G xx pg ik mx co pa cv ca cb ar nx w h pts cnt most rch M C P cc L V (Fof cs)) := (zD_left hD0).sub [1, 2, 3, 4, 5, 6, 7, 8, 9, 10] (by decide) rfl
  have hsubx : ∀ q, va_A (xL G xx pg ik mx co pa cv ca cb ar nx w h pts cnt most rch M C P cc L V (Fof cs)) s.heap.size q → A q := va_free (zD_left hD) hS hA [1, 2, 3, 4, 5, 6, 7, 8, 9, 10] rfl
  refine lv_aload_n hx hb dL_limit_0 rfl (lv_at hl 2 rfl) ?_
  refine z_iconst hx hb dL_limit_1 ?_
  refine lv_aload_n hx hb dL_limit_2 rfl (lv_at hl 0 rfl) ?_
  refine lv_iload_n hx hb dL_limit_3 rfl (lv_at hl 1 rfl) ?_
  refine z_hi (G := G) (q0 := 0) (As := [.int (zI (v))]) (rest := [.int (zI (0)), .ref oa]) hx hb hml hown hT hK hX (c_X4_limit l hst G xx pg ik mx co pa cv ca cb ar nx w h pts cnt most rch M C P cc L V (Fof cs) v hp hvv hnx (by omega)) kc_L_23 ⟨Nat.le_of_ble_eq_true rfl, Nat.le_of_ble_eq_true rfl⟩ ⟨Nat.le_of_ble_eq_true rfl, Nat.le_of_ble_eq_true rfl⟩ hPx hDx hsubx rfl rfl rfl rfl hl.1 rfl (Nat.le_of_ble_eq_true rfl) dL_limit_4 (fun E9 ce9 q9 H locs hE hk9 hS hce hcv hcl => ?_) (fun u9 H locs hok9 hk9 hP9 hD9 hS => ?_)
  · skip
    have hP : zP G ((ol G oa (ov) :: xL G xx pg ik mx co pa cv ca cb ar nx w h pts cnt most rch M C P cc L V (Fof cs)) ++ clAll G cs) H := va_P.kept hP (fun k9 q8 hq8 => hk9 _ (hP k9 q8 hq8).lt)
    obtain ⟨rfl, hcd⟩ := hE
    refine tc_catch (name := "java/lang/IllegalArgumentException") hown [] ⟨0, 9, 12, 13⟩ [] (htab.trans rfl) (fun z hz => nomatch hz) rfl (by decide) (hT _ (mT 176 (by decide +kernel) rfl)) (va_Nw.use (w := Cond.castable "java/lang/IllegalArgumentException" "java/lang/IllegalArgumentException") (ng_on _ (by decide +kernel)) (hX.2.2.2 _ (by decide +kernel))) hce hcv hcl ?_
    refine W.eq (g2 := F0 m 12 ls [.ref q9]) rfl ?_
    refine lv_astore_n (lv' := [(3, .ref q9), (0, .ref xx), (1, .int (zI (v))), (2, .ref oa)]) hx hb dL_limit_12 rfl hl (by decide) rfl (fun ls hl => ?_)
    refine z_iconst hx hb dL_limit_13 ?_
    refine W.widen (k := 1) (n := 6) (Nat.le_of_ble_eq_true rfl) (Nat.le_of_ble_eq_true rfl) ?_
    exact z_wri () hx hb hr hlocks hK (by rw [if_neg (by rw [hcd]; decide)]; exact hP) (by rw [if_neg (by rw [hcd]; decide)]; exact hD) hS (trivial) (hcd.symm) dL_limit_14
  · skip
    have hcd : (cLim v) = 0 := hok9
    obtain ⟨hP, hD⟩ := va_joinQ (X := ol G oa ov :: xL G xx pg ik mx co pa cv ca cb ar nx w h pts cnt most rch M C P cc L V (Fof cs)) (pl := clAll G cs) (wr := [ol G oa ov]) hP hD [1, 2, 3, 4, 5, 6, 7, 8, 9, 10] [0] rfl rfl rfl (by decide) hk9 hsubx hP9 hD9
    have hP : zP G ((ol G oa (ov) :: xL G xx pg ik mx co pa cv ca cb ar nx w h pts cnt v rch M C P cc L V (Fof cs)) ++ clAll G cs) H := hP
    have hD : va_D A ((ol G oa (ov) :: xL G xx pg ik mx co pa cv ca cb ar nx w h pts cnt v rch M C P cc L V (Fof cs)) ++ clAll G cs) := hD
    refine z_i2lw hx hb dL_limit_7 ?_
    refine z_last (ws' := (ol G oa ((zI (most)).toInt) :: xL G xx pg ik mx co pa cv ca cb ar nx w h pts cnt v rch M C P cc L V (Fof cs)) ++ clAll G cs) hx hb hK hP hD hS 0 rfl dL_limit_8 rfl (fun H locs hP hD hS => ?_)
    refine z_goto (tgt := 15) hx hb dL_limit_9 (by decide) ?_
    refine z_iconst hx hb dL_limit_15 ?_
    refine W.widen (k := 1) (n := 6) (Nat.le_of_ble_eq_true rfl) (Nat.le_of_ble_eq_true rfl) ?_
    exact z_wri () hx hb hr hlocks hK (by rw [if_pos hcd]; exact hP) (by rw [if_pos hcd]; exact hD) hS (trivial) (hcd.symm) dL_limit_16

set_option maxHeartbeats 4000000 in
set_option maxRecDepth 100000 in
theorem c_L_plate (l : Launch) (hst : l.stackTraces = false) (G : zG) (xx pg ik mx co pa cv ca cb ar : Nat) (nx w h pts cnt most rch : Int) (M C P : Int → Int) (cc : Int) (L V : Int → Int) (cs : List cT) (k x y way : Int) (oa : Nat) (ov : Int) (hp : pgOK w h pts cnt most rch M C P) (hvv : cvOK cc L V) (hnx : 0 ≤ nx ∧ nx ≤ 6) (hcs : csOK cs) (hnl : nx = (cs.length : Int)) (hk : -2147483648 ≤ k ∧ k ≤ 2147483647) (hx : -2147483648 ≤ x ∧ x ≤ 2147483647) (hy : -2147483648 ≤ y ∧ y ≤ 2147483647) (hway : -2147483648 ≤ way ∧ way ≤ 2147483647) : zWh l yL_plate cL_plate 7 (some .int) [(0, 14, 17, 13), (0, 14, 21, 21)] { frames := 9, cells := 2, slots := 12, locals := 149 } G [.ref xx, .int (zI (k)), .int (zI (x)), .int (zI (y)), .int (zI (way)), .ref oa] ((ol G oa (ov) :: xL G xx pg ik mx co pa cv ca cb ar nx w h pts cnt most rch M C P cc L V (Fof cs)) ++ clAll G cs) (S := Unit) (fun u => (cPla k x y way cnt w h)) (fun u => True) (fun u => if (cPla k x y way cnt w h) = 0 then (ol G oa ((zI ((if way < 2 then (pW P pts k (x + w * y) (if way % 2 = 1 then (lendV w h rch x y (cdB M P pts cnt w (x + w * y))) else -1)) else bentV cc L V (pW P pts k (x + w * y) (if way % 2 = 1 then (lendV w h rch x y (cdB M P pts cnt w (x + w * y))) else -1))))).toInt) :: xL G xx pg ik mx co pa cv ca cb ar nx w h pts cnt most rch M C P cc L V (Fof cs)) ++ clAll G cs else (ol G oa (ov) :: xL G xx pg ik mx co pa cv ca cb ar nx w h pts cnt most rch M C P cc L V (Fof cs)) ++ clAll G cs) := by
  intro sz
  refine va_MetW (cc := cL_plate) (maxL := 7) (ret := (some .int)) (hh := [(0, 14, 17, 13), (0, 14, 21, 21)]) (by decide) rfl ?_
  intro p e s m args below meth c s₁ B hml hv
  obtain ⟨rfl, hsz, hP, hK, hD0, hX, hN⟩ := hv
  have hx := B.exec
  have hb := B.bytes
  have hr := B.returns
  have hT : ∀ w ∈ TB, w.before _ s = true := fun w h => atoms_spec (ws := Cond.codeWith yL_plate cL_plate 7 (some .int) [(0, 14, 17, 13), (0, 14, 21, 21)] :: TB) B.pre w (List.mem_cons_of_mem _ h)
  have hcw := atoms_spec (ws := Cond.codeWith yL_plate cL_plate 7 (some .int) [(0, 14, 17, 13), (0, 14, 21, 21)] :: TB) B.pre _ List.mem_cons_self
  have htab := vx_table (x := yL_plate) B hcw
  have hown : s.vm.findClass RL = some m.cls := findClass_of_methodNamed B.named
  have hlocks := B.notSynchronized
  subst hsz
  have hD := hD0.self (sz := s.heap.size)
  generalize hAe : va_A ((ol G oa (ov) :: xL G xx pg ik mx co pa cv ca cb ar nx w h pts cnt most rch M C P cc L V (Fof cs)) ++ clAll G cs) s.heap.size = A at hD hX ⊢
  have hA : ∀ q : Nat, s.heap.size ≤ q → A q := fun q h => by rw [← hAe]; exact Or.inr h
  have hS : va_S A s.heap s.heap [] := va_S.rf
  have hP : zP G ((ol G oa (ov) :: xL G xx pg ik mx co pa cv ca cb ar nx w h pts cnt most rch M C P cc L V (Fof cs)) ++ clAll G cs) s.heap := hP
  have hD : va_D A ((ol G oa (ov) :: xL G xx pg ik mx co pa cv ca cb ar nx w h pts cnt most rch M C P cc L V (Fof cs)) ++ clAll G cs) := hD
  have hl := lv_entry ([.ref xx, .int (zI (k)), .int (zI (x)), .int (zI (y)), .int (zI (way)), .ref oa]) (n := 7) (Nat.le_of_ble_eq_true rfl)
  rw [lg_entry_eq]
  generalize (lg_sl ([.ref xx, .int (zI (k)), .int (zI (x)), .int (zI (y)), .int (zI (way)), .ref oa]) ++ List.replicate (7 - (lg_sl ([.ref xx, .int (zI (k)), .int (zI (x)), .int (zI (y)), .int (zI (way)), .ref oa])).length) Slot.unset).toArray = ls at hl ⊢
  have hl : lv_has ls 7 [(0, .ref xx), (1, .int (zI (k))), (2, .int (zI (x))), (3, .int (zI (y))), (4, .int (zI (way))), (5, .ref oa)] := hl
  obtain ⟨hw, hh, hpts, hcnt, hmost, hrch, hM, hC, hB⟩ := id hp
  have hpt := pgOK_pts hp
  obtain ⟨hcc, hL0, hLe, hLs, hLb, hVb⟩ := id hvv
  have hPx : zP G (xL G xx pg ik mx co pa cv ca cb ar nx w h pts cnt most rch M C P cc L V (Fof cs)) s.heap := (zP_left hP).sub [1, 2, 3, 4, 5, 6, 7, 8, 9, 10] rfl
  have hDx : va_D (fun _ => True) (xL G xx pg ik mx co pa cv ca cb ar nx w h pts cnt most rch M C P cc L V (Fof cs)) := (zD_left hD0).sub [1, 2, 3, 4, 5, 6, 7, 8, 9, 10] (by decide) rfl
  have hsubx : ∀ q, va_A (xL G xx pg ik mx co pa cv ca cb ar nx w h pts cnt most rch M C P cc L V (Fof cs)) s.heap.size q → A q := va_free (zD_left hD) hS hA [1, 2, 3, 4, 5, 6, 7, 8, 9, 10] rfl
  refine lv_aload hx hb dL_plate_0 (lv_at hl 5 rfl) ?_
  refine z_iconst hx hb dL_plate_2 ?_
  refine lv_aload_n hx hb dL_plate_3 rfl (lv_at hl 0 rfl) ?_
  refine lv_iload_n hx hb dL_plate_4 rfl (lv_at hl 1 rfl) ?_
  refine lv_iload_n hx hb dL_plate_5 rfl (lv_at hl 2 rfl) ?_
  refine lv_iload_n hx hb dL_plate_6 rfl (lv_at hl 3 rfl) ?_
  refine lv_iload hx hb dL_plate_7 (lv_at hl 4 rfl) ?_
  refine z_hi (G := G) (q0 := 0) (As := [.int (zI (k)), .int (zI (x)), .int (zI (y)), .int (zI (way))]) (rest := [.int (zI (0)), .ref oa]) hx hb hml hown hT hK hX (c_X4_plate l hst G xx pg ik mx co pa cv ca cb ar nx w h pts cnt most rch M C P cc L V (Fof cs) k x y way hp hvv hnx (by omega) (by omega) (by omega) (by omega)) kc_L_27 ⟨Nat.le_of_ble_eq_true rfl, Nat.le_of_ble_eq_true rfl⟩ ⟨Nat.le_of_ble_eq_true rfl, Nat.le_of_ble_eq_true rfl⟩ hPx hDx hsubx rfl rfl rfl rfl hl.1 rfl (Nat.le_of_ble_eq_true rfl) dL_plate_9 (fun E9 ce9 q9 H locs hE hk9 hS hce hcv hcl => ?_) (fun u9 H locs hok9 hk9 hP9 hD9 hS => ?_)
  · skip
    have hP : zP G ((ol G oa (ov) :: xL G xx pg ik mx co pa cv ca cb ar nx w h pts cnt most rch M C P cc L V (Fof cs)) ++ clAll G cs) H := va_P.kept hP (fun k9 q8 hq8 => hk9 _ (hP k9 q8 hq8).lt)
    rcases hE with ⟨rfl, hcd⟩ | ⟨rfl, hcd⟩
    · skip
      refine tc_catch (name := "java/lang/IllegalArgumentException") hown [] ⟨0, 14, 17, 13⟩ [⟨0, 14, 21, 21⟩] (htab.trans rfl) (fun z hz => nomatch hz) rfl (by decide) (hT _ (mT 176 (by decide +kernel) rfl)) (va_Nw.use (w := Cond.castable "java/lang/IllegalArgumentException" "java/lang/IllegalArgumentException") (ng_on _ (by decide +kernel)) (hX.2.2.2 _ (by decide +kernel))) hce hcv hcl ?_
      refine W.eq (g2 := F0 m 17 ls [.ref q9]) rfl ?_
      refine lv_astore (lv' := [(6, .ref q9), (0, .ref xx), (1, .int (zI (k))), (2, .int (zI (x))), (3, .int (zI (y))), (4, .int (zI (way))), (5, .ref oa)]) hx hb dL_plate_17 hl (by decide) rfl (fun ls hl => ?_)
      refine z_iconst hx hb dL_plate_19 ?_
      refine W.widen (k := 2) (n := 12) (Nat.le_of_ble_eq_true rfl) (Nat.le_of_ble_eq_true rfl) ?_
      exact z_wri () hx hb hr hlocks hK (by rw [if_neg (by rw [hcd]; decide)]; exact hP) (by rw [if_neg (by rw [hcd]; decide)]; exact hD) hS (trivial) (hcd.symm) dL_plate_20
    · skip
      refine tc_catch (name := "java/lang/ArrayIndexOutOfBoundsException") hown [(⟨0, 14, 17, 13⟩, "java/lang/IllegalArgumentException")] ⟨0, 14, 21, 21⟩ [] (htab.trans rfl) (fa1 ⟨rfl, by decide, hT _ (mT 176 (by decide +kernel) rfl), hN _ (by decide) _ (by decide) (by decide)⟩) rfl (by decide) (hT _ (mT 277 (by decide +kernel) rfl)) (va_Nw.use (w := Cond.castable "java/lang/ArrayIndexOutOfBoundsException" "java/lang/ArrayIndexOutOfBoundsException") (ng_on _ (by decide +kernel)) (hX.2.2.2 _ (by decide +kernel))) hce hcv hcl ?_
      refine W.eq (g2 := F0 m 21 ls [.ref q9]) rfl ?_
      refine lv_astore (lv' := [(6, .ref q9), (0, .ref xx), (1, .int (zI (k))), (2, .int (zI (x))), (3, .int (zI (y))), (4, .int (zI (way))), (5, .ref oa)]) hx hb dL_plate_21 hl (by decide) rfl (fun ls hl => ?_)
      refine z_iconst hx hb dL_plate_23 ?_
      refine W.widen (k := 2) (n := 12) (Nat.le_of_ble_eq_true rfl) (Nat.le_of_ble_eq_true rfl) ?_
      exact z_wri () hx hb hr hlocks hK (by rw [if_neg (by rw [hcd]; decide)]; exact hP) (by rw [if_neg (by rw [hcd]; decide)]; exact hD) hS (trivial) (hcd.symm) dL_plate_24
  · skip
    have hcd : (cPla k x y way cnt w h) = 0 := hok9
    obtain ⟨hP, hD⟩ := va_joinQ (X := ol G oa ov :: xL G xx pg ik mx co pa cv ca cb ar nx w h pts cnt most rch M C P cc L V (Fof cs)) (pl := clAll G cs) (wr := [ol G oa ov]) hP hD [1, 2, 3, 4, 5, 6, 7, 8, 9, 10] [0] rfl rfl rfl (by decide) hk9 hsubx hP9 hD9
    have hP : zP G ((ol G oa (ov) :: xL G xx pg ik mx co pa cv ca cb ar nx w h pts cnt most rch M C P cc L V (Fof cs)) ++ clAll G cs) H := hP
    have hD : va_D A ((ol G oa (ov) :: xL G xx pg ik mx co pa cv ca cb ar nx w h pts cnt most rch M C P cc L V (Fof cs)) ++ clAll G cs) := hD
    refine z_i2lw hx hb dL_plate_12 ?_
    refine z_last (ws' := (ol G oa ((zI ((if way < 2 then (pW P pts k (x + w * y) (if way % 2 = 1 then (lendV w h rch x y (cdB M P pts cnt w (x + w * y))) else -1)) else bentV cc L V (pW P pts k (x + w * y) (if way % 2 = 1 then (lendV w h rch x y (cdB M P pts cnt w (x + w * y))) else -1))))).toInt) :: xL G xx pg ik mx co pa cv ca cb ar nx w h pts cnt most rch M C P cc L V (Fof cs)) ++ clAll G cs) hx hb hK hP hD hS 0 rfl dL_plate_13 rfl (fun H locs hP hD hS => ?_)
    refine z_goto (tgt := 25) hx hb dL_plate_14 (by decide) ?_
    refine z_iconst hx hb dL_plate_25 ?_
    refine W.widen (k := 2) (n := 12) (Nat.le_of_ble_eq_true rfl) (Nat.le_of_ble_eq_true rfl) ?_
    exact z_wri () hx hb hr hlocks hK (by rw [if_pos hcd]; exact hP) (by rw [if_pos hcd]; exact hD) hS (trivial) (hcd.symm) dL_plate_26

set_option maxHeartbeats 4000000 in
set_option maxRecDepth 100000 in
theorem c_L_seen (l : Launch) (hst : l.stackTraces = false) (G : zG) (xx pg ik mx co pa cv ca cb ar : Nat) (nx w h pts cnt most rch : Int) (M C P : Int → Int) (cc : Int) (L V : Int → Int) (cs : List cT) (x y b tr : Int) (oa : Nat) (ov : Int) (hp : pgOK w h pts cnt most rch M C P) (hvv : cvOK cc L V) (hnx : 0 ≤ nx ∧ nx ≤ 6) (hcs : csOK cs) (hnl : nx = (cs.length : Int)) (hx : -2147483648 ≤ x ∧ x ≤ 2147483647) (hy : -2147483648 ≤ y ∧ y ≤ 2147483647) (hb : -2147483648 ≤ b ∧ b ≤ 2147483647) (htr : 0 ≤ tr ∧ tr ≤ 1) : zWh l yL_seen cL_seen 7 (some .int) [(0, 14, 17, 21)] { frames := 9, cells := 2, slots := 12, locals := 148 } G [.ref xx, .int (zI (x)), .int (zI (y)), .int (zI (b)), .int (zI (tr)), .ref oa] ((ol G oa (ov) :: xL G xx pg ik mx co pa cv ca cb ar nx w h pts cnt most rch M C P cc L V (Fof cs)) ++ clAll G cs) (S := Unit) (fun u => (cSee x y b w h)) (fun u => True) (fun u => if (cSee x y b w h) = 0 then (ol G oa ((zI ((bandV M P pts cnt b (x + w * y) (if tr = 0 then -1 else (lendV w h rch x y (cdB M P pts cnt w (x + w * y))))))).toInt) :: xL G xx pg ik mx co pa cv ca cb ar nx w h pts cnt most rch M C P cc L V (Fof cs)) ++ clAll G cs else (ol G oa (ov) :: xL G xx pg ik mx co pa cv ca cb ar nx w h pts cnt most rch M C P cc L V (Fof cs)) ++ clAll G cs) := by
  intro sz
  refine va_MetW (cc := cL_seen) (maxL := 7) (ret := (some .int)) (hh := [(0, 14, 17, 21)]) (by decide) rfl ?_
  intro p e s m args below meth c s₁ B hml hv
  obtain ⟨rfl, hsz, hP, hK, hD0, hX, hN⟩ := hv
  have hx := B.exec
  have hb := B.bytes
  have hr := B.returns
  have hT : ∀ w ∈ TB, w.before _ s = true := fun w h => atoms_spec (ws := Cond.codeWith yL_seen cL_seen 7 (some .int) [(0, 14, 17, 21)] :: TB) B.pre w (List.mem_cons_of_mem _ h)
  have hcw := atoms_spec (ws := Cond.codeWith yL_seen cL_seen 7 (some .int) [(0, 14, 17, 21)] :: TB) B.pre _ List.mem_cons_self
  have htab := vx_table (x := yL_seen) B hcw
  have hown : s.vm.findClass RL = some m.cls := findClass_of_methodNamed B.named
  have hlocks := B.notSynchronized
  subst hsz
  have hD := hD0.self (sz := s.heap.size)
  generalize hAe : va_A ((ol G oa (ov) :: xL G xx pg ik mx co pa cv ca cb ar nx w h pts cnt most rch M C P cc L V (Fof cs)) ++ clAll G cs) s.heap.size = A at hD hX ⊢
  have hA : ∀ q : Nat, s.heap.size ≤ q → A q := fun q h => by rw [← hAe]; exact Or.inr h
  have hS : va_S A s.heap s.heap [] := va_S.rf
  have hP : zP G ((ol G oa (ov) :: xL G xx pg ik mx co pa cv ca cb ar nx w h pts cnt most rch M C P cc L V (Fof cs)) ++ clAll G cs) s.heap := hP
  have hD : va_D A ((ol G oa (ov) :: xL G xx pg ik mx co pa cv ca cb ar nx w h pts cnt most rch M C P cc L V (Fof cs)) ++ clAll G cs) := hD
  have hl := lv_entry ([.ref xx, .int (zI (x)), .int (zI (y)), .int (zI (b)), .int (zI (tr)), .ref oa]) (n := 7) (Nat.le_of_ble_eq_true rfl)
  rw [lg_entry_eq]
  generalize (lg_sl ([.ref xx, .int (zI (x)), .int (zI (y)), .int (zI (b)), .int (zI (tr)), .ref oa]) ++ List.replicate (7 - (lg_sl ([.ref xx, .int (zI (x)), .int (zI (y)), .int (zI (b)), .int (zI (tr)), .ref oa])).length) Slot.unset).toArray = ls at hl ⊢
  have hl : lv_has ls 7 [(0, .ref xx), (1, .int (zI (x))), (2, .int (zI (y))), (3, .int (zI (b))), (4, .int (zI (tr))), (5, .ref oa)] := hl
  obtain ⟨hw, hh, hpts, hcnt, hmost, hrch, hM, hC, hB⟩ := id hp
  have hpt := pgOK_pts hp
  obtain ⟨hcc, hL0, hLe, hLs, hLb, hVb⟩ := id hvv
  have hPx : zP G (xL G xx pg ik mx co pa cv ca cb ar nx w h pts cnt most rch M C P cc L V (Fof cs)) s.heap := (zP_left hP).sub [1, 2, 3, 4, 5, 6, 7, 8, 9, 10] rfl
  have hDx : va_D (fun _ => True) (xL G xx pg ik mx co pa cv ca cb ar nx w h pts cnt most rch M C P cc L V (Fof cs)) := (zD_left hD0).sub [1, 2, 3, 4, 5, 6, 7, 8, 9, 10] (by decide) rfl
  have hsubx : ∀ q, va_A (xL G xx pg ik mx co pa cv ca cb ar nx w h pts cnt most rch M C P cc L V (Fof cs)) s.heap.size q → A q := va_free (zD_left hD) hS hA [1, 2, 3, 4, 5, 6, 7, 8, 9, 10] rfl
  refine lv_aload hx hb dL_seen_0 (lv_at hl 5 rfl) ?_
  refine z_iconst hx hb dL_seen_2 ?_
  refine lv_aload_n hx hb dL_seen_3 rfl (lv_at hl 0 rfl) ?_
  refine lv_iload_n hx hb dL_seen_4 rfl (lv_at hl 1 rfl) ?_
  refine lv_iload_n hx hb dL_seen_5 rfl (lv_at hl 2 rfl) ?_
  refine lv_iload_n hx hb dL_seen_6 rfl (lv_at hl 3 rfl) ?_
  refine lv_iload hx hb dL_seen_7 (lv_at hl 4 rfl) ?_
  refine z_hi (G := G) (q0 := 0) (As := [.int (zI (x)), .int (zI (y)), .int (zI (b)), .int (zI (tr))]) (rest := [.int (zI (0)), .ref oa]) hx hb hml hown hT hK hX (c_X4_seen l hst G xx pg ik mx co pa cv ca cb ar nx w h pts cnt most rch M C P cc L V (Fof cs) x y b tr hp hvv hnx (by omega) (by omega) (by omega) htr) kc_L_30 ⟨Nat.le_of_ble_eq_true rfl, Nat.le_of_ble_eq_true rfl⟩ ⟨Nat.le_of_ble_eq_true rfl, Nat.le_of_ble_eq_true rfl⟩ hPx hDx hsubx rfl rfl rfl rfl hl.1 rfl (Nat.le_of_ble_eq_true rfl) dL_seen_9 (fun E9 ce9 q9 H locs hE hk9 hS hce hcv hcl => ?_) (fun u9 H locs hok9 hk9 hP9 hD9 hS => ?_)
  · skip
    have hP : zP G ((ol G oa (ov) :: xL G xx pg ik mx co pa cv ca cb ar nx w h pts cnt most rch M C P cc L V (Fof cs)) ++ clAll G cs) H := va_P.kept hP (fun k9 q8 hq8 => hk9 _ (hP k9 q8 hq8).lt)
    obtain ⟨rfl, hcd⟩ := hE
    refine tc_catch (name := "java/lang/ArrayIndexOutOfBoundsException") hown [] ⟨0, 14, 17, 21⟩ [] (htab.trans rfl) (fun z hz => nomatch hz) rfl (by decide) (hT _ (mT 277 (by decide +kernel) rfl)) (va_Nw.use (w := Cond.castable "java/lang/ArrayIndexOutOfBoundsException" "java/lang/ArrayIndexOutOfBoundsException") (ng_on _ (by decide +kernel)) (hX.2.2.2 _ (by decide +kernel))) hce hcv hcl ?_
    refine W.eq (g2 := F0 m 17 ls [.ref q9]) rfl ?_
    refine lv_astore (lv' := [(6, .ref q9), (0, .ref xx), (1, .int (zI (x))), (2, .int (zI (y))), (3, .int (zI (b))), (4, .int (zI (tr))), (5, .ref oa)]) hx hb dL_seen_17 hl (by decide) rfl (fun ls hl => ?_)
    refine z_iconst hx hb dL_seen_19 ?_
    refine W.widen (k := 2) (n := 12) (Nat.le_of_ble_eq_true rfl) (Nat.le_of_ble_eq_true rfl) ?_
    exact z_wri () hx hb hr hlocks hK (by rw [if_neg (by rw [hcd]; decide)]; exact hP) (by rw [if_neg (by rw [hcd]; decide)]; exact hD) hS (trivial) (hcd.symm) dL_seen_20
  · skip
    have hcd : (cSee x y b w h) = 0 := hok9
    obtain ⟨hP, hD⟩ := va_joinQ (X := ol G oa ov :: xL G xx pg ik mx co pa cv ca cb ar nx w h pts cnt most rch M C P cc L V (Fof cs)) (pl := clAll G cs) (wr := [ol G oa ov]) hP hD [1, 2, 3, 4, 5, 6, 7, 8, 9, 10] [0] rfl rfl rfl (by decide) hk9 hsubx hP9 hD9
    have hP : zP G ((ol G oa (ov) :: xL G xx pg ik mx co pa cv ca cb ar nx w h pts cnt most rch M C P cc L V (Fof cs)) ++ clAll G cs) H := hP
    have hD : va_D A ((ol G oa (ov) :: xL G xx pg ik mx co pa cv ca cb ar nx w h pts cnt most rch M C P cc L V (Fof cs)) ++ clAll G cs) := hD
    refine z_i2lw hx hb dL_seen_12 ?_
    refine z_last (ws' := (ol G oa ((zI ((bandV M P pts cnt b (x + w * y) (if tr = 0 then -1 else (lendV w h rch x y (cdB M P pts cnt w (x + w * y))))))).toInt) :: xL G xx pg ik mx co pa cv ca cb ar nx w h pts cnt most rch M C P cc L V (Fof cs)) ++ clAll G cs) hx hb hK hP hD hS 0 rfl dL_seen_13 rfl (fun H locs hP hD hS => ?_)
    refine z_goto (tgt := 21) hx hb dL_seen_14 (by decide) ?_
    refine z_iconst hx hb dL_seen_21 ?_
    refine W.widen (k := 2) (n := 12) (Nat.le_of_ble_eq_true rfl) (Nat.le_of_ble_eq_true rfl) ?_
    exact z_wri () hx hb hr hlocks hK (by rw [if_pos hcd]; exact hP) (by rw [if_pos hcd]; exact hD) hS (trivial) (hcd.symm) dL_seen_22

set_option maxHeartbeats 4000000 in
set_option maxRecDepth 100000 in
theorem c_L_lender (l : Launch) (hst : l.stackTraces = false) (G : zG) (xx pg ik mx co pa cv ca cb ar : Nat) (nx w h pts cnt most rch : Int) (M C P : Int → Int) (cc : Int) (L V : Int → Int) (cs : List cT) (x y : Int) (oa : Nat) (ov : Int) (hp : pgOK w h pts cnt most rch M C P) (hvv : cvOK cc L V) (hnx : 0 ≤ nx ∧ nx ≤ 6) (hcs : csOK cs) (hnl : nx = (cs.length : Int)) (hx : -2147483648 ≤ x ∧ x ≤ 2147483647) (hy : -2147483648 ≤ y ∧ y ≤ 2147483647) : zWh l yL_lender cL_lender 5 (some .int) [(0, 10, 13, 21)] { frames := 9, cells := 1, slots := 6, locals := 145 } G [.ref xx, .int (zI (x)), .int (zI (y)), .ref oa] ((ol G oa (ov) :: xL G xx pg ik mx co pa cv ca cb ar nx w h pts cnt most rch M C P cc L V (Fof cs)) ++ clAll G cs) (S := Unit) (fun u => (cLen x y w h)) (fun u => True) (fun u => if (cLen x y w h) = 0 then (ol G oa ((zI ((lendV w h rch x y (cdB M P pts cnt w (x + w * y))))).toInt) :: xL G xx pg ik mx co pa cv ca cb ar nx w h pts cnt most rch M C P cc L V (Fof cs)) ++ clAll G cs else (ol G oa (ov) :: xL G xx pg ik mx co pa cv ca cb ar nx w h pts cnt most rch M C P cc L V (Fof cs)) ++ clAll G cs) := by
  intro sz
  refine va_MetW (cc := cL_lender) (maxL := 5) (ret := (some .int)) (hh := [(0, 10, 13, 21)]) (by decide) rfl ?_
  intro p e s m args below meth c s₁ B hml hv
  obtain ⟨rfl, hsz, hP, hK, hD0, hX, hN⟩ := hv
  have hx := B.exec
  have hb := B.bytes
  have hr := B.returns
  have hT : ∀ w ∈ TB, w.before _ s = true := fun w h => atoms_spec (ws := Cond.codeWith yL_lender cL_lender 5 (some .int) [(0, 10, 13, 21)] :: TB) B.pre w (List.mem_cons_of_mem _ h)
  have hcw := atoms_spec (ws := Cond.codeWith yL_lender cL_lender 5 (some .int) [(0, 10, 13, 21)] :: TB) B.pre _ List.mem_cons_self
  have htab := vx_table (x := yL_lender) B hcw
  have hown : s.vm.findClass RL = some m.cls := findClass_of_methodNamed B.named
  have hlocks := B.notSynchronized
  subst hsz
  have hD := hD0.self (sz := s.heap.size)
  generalize hAe : va_A ((ol G oa (ov) :: xL G xx pg ik mx co pa cv ca cb ar nx w h pts cnt most rch M C P cc L V (Fof cs)) ++ clAll G cs) s.heap.size = A at hD hX ⊢
  have hA : ∀ q : Nat, s.heap.size ≤ q → A q := fun q h => by rw [← hAe]; exact Or.inr h
  have hS : va_S A s.heap s.heap [] := va_S.rf
  have hP : zP G ((ol G oa (ov) :: xL G xx pg ik mx co pa cv ca cb ar nx w h pts cnt most rch M C P cc L V (Fof cs)) ++ clAll G cs) s.heap := hP
  have hD : va_D A ((ol G oa (ov) :: xL G xx pg ik mx co pa cv ca cb ar nx w h pts cnt most rch M C P cc L V (Fof cs)) ++ clAll G cs) := hD
  have hl := lv_entry ([.ref xx, .int (zI (x)), .int (zI (y)), .ref oa]) (n := 5) (Nat.le_of_ble_eq_true rfl)
  rw [lg_entry_eq]
  generalize (lg_sl ([.ref xx, .int (zI (x)), .int (zI (y)), .ref oa]) ++ List.replicate (5 - (lg_sl ([.ref xx, .int (zI (x)), .int (zI (y)), .ref oa])).length) Slot.unset).toArray = ls at hl ⊢
  have hl : lv_has ls 5 [(0, .ref xx), (1, .int (zI (x))), (2, .int (zI (y))), (3, .ref oa)] := hl
  obtain ⟨hw, hh, hpts, hcnt, hmost, hrch, hM, hC, hB⟩ := id hp
  have hpt := pgOK_pts hp
  obtain ⟨hcc, hL0, hLe, hLs, hLb, hVb⟩ := id hvv
  have hPx : zP G (xL G xx pg ik mx co pa cv ca cb ar nx w h pts cnt most rch M C P cc L V (Fof cs)) s.heap := (zP_left hP).sub [1, 2, 3, 4, 5, 6, 7, 8, 9, 10] rfl
  have hDx : va_D (fun _ => True) (xL G xx pg ik mx co pa cv ca cb ar nx w h pts cnt most rch M C P cc L V (Fof cs)) := (zD_left hD0).sub [1, 2, 3, 4, 5, 6, 7, 8, 9, 10] (by decide) rfl
  have hsubx : ∀ q, va_A (xL G xx pg ik mx co pa cv ca cb ar nx w h pts cnt most rch M C P cc L V (Fof cs)) s.heap.size q → A q := va_free (zD_left hD) hS hA [1, 2, 3, 4, 5, 6, 7, 8, 9, 10] rfl
  refine lv_aload_n hx hb dL_lender_0 rfl (lv_at hl 3 rfl) ?_
  refine z_iconst hx hb dL_lender_1 ?_
  refine lv_aload_n hx hb dL_lender_2 rfl (lv_at hl 0 rfl) ?_
  refine lv_iload_n hx hb dL_lender_3 rfl (lv_at hl 1 rfl) ?_
  refine lv_iload_n hx hb dL_lender_4 rfl (lv_at hl 2 rfl) ?_
  refine z_hi (G := G) (q0 := 0) (As := [.int (zI (x)), .int (zI (y))]) (rest := [.int (zI (0)), .ref oa]) hx hb hml hown hT hK hX (c_X4_lender l hst G xx pg ik mx co pa cv ca cb ar nx w h pts cnt most rch M C P cc L V (Fof cs) x y hp hvv hnx (by omega) (by omega)) kc_L_34 ⟨Nat.le_of_ble_eq_true rfl, Nat.le_of_ble_eq_true rfl⟩ ⟨Nat.le_of_ble_eq_true rfl, Nat.le_of_ble_eq_true rfl⟩ hPx hDx hsubx rfl rfl rfl rfl hl.1 rfl (Nat.le_of_ble_eq_true rfl) dL_lender_5 (fun E9 ce9 q9 H locs hE hk9 hS hce hcv hcl => ?_) (fun u9 H locs hok9 hk9 hP9 hD9 hS => ?_)
  · skip
    have hP : zP G ((ol G oa (ov) :: xL G xx pg ik mx co pa cv ca cb ar nx w h pts cnt most rch M C P cc L V (Fof cs)) ++ clAll G cs) H := va_P.kept hP (fun k9 q8 hq8 => hk9 _ (hP k9 q8 hq8).lt)
    obtain ⟨rfl, hcd⟩ := hE
    refine tc_catch (name := "java/lang/ArrayIndexOutOfBoundsException") hown [] ⟨0, 10, 13, 21⟩ [] (htab.trans rfl) (fun z hz => nomatch hz) rfl (by decide) (hT _ (mT 277 (by decide +kernel) rfl)) (va_Nw.use (w := Cond.castable "java/lang/ArrayIndexOutOfBoundsException" "java/lang/ArrayIndexOutOfBoundsException") (ng_on _ (by decide +kernel)) (hX.2.2.2 _ (by decide +kernel))) hce hcv hcl ?_
    refine W.eq (g2 := F0 m 13 ls [.ref q9]) rfl ?_
    refine lv_astore (lv' := [(4, .ref q9), (0, .ref xx), (1, .int (zI (x))), (2, .int (zI (y))), (3, .ref oa)]) hx hb dL_lender_13 hl (by decide) rfl (fun ls hl => ?_)
    refine z_iconst hx hb dL_lender_15 ?_
    refine W.widen (k := 1) (n := 6) (Nat.le_of_ble_eq_true rfl) (Nat.le_of_ble_eq_true rfl) ?_
    exact z_wri () hx hb hr hlocks hK (by rw [if_neg (by rw [hcd]; decide)]; exact hP) (by rw [if_neg (by rw [hcd]; decide)]; exact hD) hS (trivial) (hcd.symm) dL_lender_16
  · skip
    have hcd : (cLen x y w h) = 0 := hok9
    obtain ⟨hP, hD⟩ := va_joinQ (X := ol G oa ov :: xL G xx pg ik mx co pa cv ca cb ar nx w h pts cnt most rch M C P cc L V (Fof cs)) (pl := clAll G cs) (wr := [ol G oa ov]) hP hD [1, 2, 3, 4, 5, 6, 7, 8, 9, 10] [0] rfl rfl rfl (by decide) hk9 hsubx hP9 hD9
    have hP : zP G ((ol G oa (ov) :: xL G xx pg ik mx co pa cv ca cb ar nx w h pts cnt most rch M C P cc L V (Fof cs)) ++ clAll G cs) H := hP
    have hD : va_D A ((ol G oa (ov) :: xL G xx pg ik mx co pa cv ca cb ar nx w h pts cnt most rch M C P cc L V (Fof cs)) ++ clAll G cs) := hD
    refine z_i2lw hx hb dL_lender_8 ?_
    refine z_last (ws' := (ol G oa ((zI ((lendV w h rch x y (cdB M P pts cnt w (x + w * y))))).toInt) :: xL G xx pg ik mx co pa cv ca cb ar nx w h pts cnt most rch M C P cc L V (Fof cs)) ++ clAll G cs) hx hb hK hP hD hS 0 rfl dL_lender_9 rfl (fun H locs hP hD hS => ?_)
    refine z_goto (tgt := 17) hx hb dL_lender_10 (by decide) ?_
    refine z_iconst hx hb dL_lender_17 ?_
    refine W.widen (k := 1) (n := 6) (Nat.le_of_ble_eq_true rfl) (Nat.le_of_ble_eq_true rfl) ?_
    exact z_wri () hx hb hr hlocks hK (by rw [if_pos hcd]; exact hP) (by rw [if_pos hcd]; exact hD) hS (trivial) (hcd.symm) dL_lender_18

set_option maxHeartbeats 4000000 in
set_option maxRecDepth 100000 in
theorem c_L_width (l : Launch) (hst : l.stackTraces = false) (G : zG) (xx pg ik mx co pa cv ca cb ar : Nat) (nx w h pts cnt most rch : Int) (M C P : Int → Int) (cc : Int) (L V : Int → Int) (cs : List cT) (v : Int) (oa : Nat) (ov : Int) (hp : pgOK w h pts cnt most rch M C P) (hvv : cvOK cc L V) (hnx : 0 ≤ nx ∧ nx ≤ 6) (hcs : csOK cs) (hnl : nx = (cs.length : Int)) (hv : -2147483648 ≤ v ∧ v ≤ 2147483647) : zWh l yL_width cL_width 4 (some .int) [(0, 9, 12, 13)] { frames := 7, cells := 1, slots := 6, locals := 104 } G [.ref xx, .int (zI (v)), .ref oa] ((ol G oa (ov) :: xL G xx pg ik mx co pa cv ca cb ar nx w h pts cnt most rch M C P cc L V (Fof cs)) ++ clAll G cs) (S := Unit) (fun u => (cWid v)) (fun u => True) (fun u => if (cWid v) = 0 then (ol G oa ((zI (rch)).toInt) :: xL G xx pg ik mx co pa cv ca cb ar nx w h pts cnt most v M C P cc L V (Fof cs)) ++ clAll G cs else (ol G oa (ov) :: xL G xx pg ik mx co pa cv ca cb ar nx w h pts cnt most rch M C P cc L V (Fof cs)) ++ clAll G cs) := by
  intro sz
  refine va_MetW (cc := cL_width) (maxL := 4) (ret := (some .int)) (hh := [(0, 9, 12, 13)]) (by decide) rfl ?_
  intro p e s m args below meth c s₁ B hml hv
  obtain ⟨rfl, hsz, hP, hK, hD0, hX, hN⟩ := hv
  have hx := B.exec
  have hb := B.bytes
  have hr := B.returns
  have hT : ∀ w ∈ TB, w.before _ s = true := fun w h => atoms_spec (ws := Cond.codeWith yL_width cL_width 4 (some .int) [(0, 9, 12, 13)] :: TB) B.pre w (List.mem_cons_of_mem _ h)
  have hcw := atoms_spec (ws := Cond.codeWith yL_width cL_width 4 (some .int) [(0, 9, 12, 13)] :: TB) B.pre _ List.mem_cons_self
  have htab := vx_table (x := yL_width) B hcw
  have hown : s.vm.findClass RL = some m.cls := findClass_of_methodNamed B.named
  have hlocks := B.notSynchronized
  subst hsz
  have hD := hD0.self (sz := s.heap.size)
  generalize hAe : va_A ((ol G oa (ov) :: xL G xx pg ik mx co pa cv ca cb ar nx w h pts cnt most rch M C P cc L V (Fof cs)) ++ clAll G cs) s.heap.size = A at hD hX ⊢
  have hA : ∀ q : Nat, s.heap.size ≤ q → A q := fun q h => by rw [← hAe]; exact Or.inr h
  have hS : va_S A s.heap s.heap [] := va_S.rf
  have hP : zP G ((ol G oa (ov) :: xL G xx pg ik mx co pa cv ca cb ar nx w h pts cnt most rch M C P cc L V (Fof cs)) ++ clAll G cs) s.heap := hP
  have hD : va_D A ((ol G oa (ov) :: xL G xx pg ik mx co pa cv ca cb ar nx w h pts cnt most rch M C P cc L V (Fof cs)) ++ clAll G cs) := hD
  have hl := lv_entry ([.ref xx, .int (zI (v)), .ref oa]) (n := 4) (Nat.le_of_ble_eq_true rfl)
  rw [lg_entry_eq]
  generalize (lg_sl ([.ref xx, .int (zI (v)), .ref oa]) ++ List.replicate (4 - (lg_sl ([.ref xx, .int (zI (v)), .ref oa])).length) Slot.unset).toArray = ls at hl ⊢
  have hl : lv_has ls 4 [(0, .ref xx), (1, .int (zI (v))), (2, .ref oa)] := hl
  obtain ⟨hw, hh, hpts, hcnt, hmost, hrch, hM, hC, hB⟩ := id hp
  have hpt := pgOK_pts hp
  obtain ⟨hcc, hL0, hLe, hLs, hLb, hVb⟩ := id hvv
  have hPx : zP G (xL G xx pg ik mx co pa cv ca cb ar nx w h pts cnt most rch M C P cc L V (Fof cs)) s.heap := (zP_left hP).sub [1, 2, 3, 4, 5, 6, 7, 8, 9, 10] rfl
  have hDx : va_D (fun _ => True) (xL G xx pg ik mx co pa cv ca cb ar nx w h pts cnt most rch M C P cc L V (Fof cs)) := (zD_left hD0).sub [1, 2, 3, 4, 5, 6, 7, 8, 9, 10] (by decide) rfl
  have hsubx : ∀ q, va_A (xL G xx pg ik mx co pa cv ca cb ar nx w h pts cnt most rch M C P cc L V (Fof cs)) s.heap.size q → A q := va_free (zD_left hD) hS hA [1, 2, 3, 4, 5, 6, 7, 8, 9, 10] rfl
  refine lv_aload_n hx hb dL_width_0 rfl (lv_at hl 2 rfl) ?_
  refine z_iconst hx hb dL_width_1 ?_
  refine lv_aload_n hx hb dL_width_2 rfl (lv_at hl 0 rfl) ?_
  refine lv_iload_n hx hb dL_width_3 rfl (lv_at hl 1 rfl) ?_
  refine z_hi (G := G) (q0 := 0) (As := [.int (zI (v))]) (rest := [.int (zI (0)), .ref oa]) hx hb hml hown hT hK hX (c_X4_width l hst G xx pg ik mx co pa cv ca cb ar nx w h pts cnt most rch M C P cc L V (Fof cs) v hp hvv hnx (by omega)) kc_L_38 ⟨Nat.le_of_ble_eq_true rfl, Nat.le_of_ble_eq_true rfl⟩ ⟨Nat.le_of_ble_eq_true rfl, Nat.le_of_ble_eq_true rfl⟩ hPx hDx hsubx rfl rfl rfl rfl hl.1 rfl (Nat.le_of_ble_eq_true rfl) dL_width_4 (fun E9 ce9 q9 H locs hE hk9 hS hce hcv hcl => ?_) (fun u9 H locs hok9 hk9 hP9 hD9 hS => ?_)
  · skip
    have hP : zP G ((ol G oa (ov) :: xL G xx pg ik mx co pa cv ca cb ar nx w h pts cnt most rch M C P cc L V (Fof cs)) ++ clAll G cs) H := va_P.kept hP (fun k9 q8 hq8 => hk9 _ (hP k9 q8 hq8).lt)
    obtain ⟨rfl, hcd⟩ := hE
    refine tc_catch (name := "java/lang/IllegalArgumentException") hown [] ⟨0, 9, 12, 13⟩ [] (htab.trans rfl) (fun z hz => nomatch hz) rfl (by decide) (hT _ (mT 176 (by decide +kernel) rfl)) (va_Nw.use (w := Cond.castable "java/lang/IllegalArgumentException" "java/lang/IllegalArgumentException") (ng_on _ (by decide +kernel)) (hX.2.2.2 _ (by decide +kernel))) hce hcv hcl ?_
    refine W.eq (g2 := F0 m 12 ls [.ref q9]) rfl ?_
    refine lv_astore_n (lv' := [(3, .ref q9), (0, .ref xx), (1, .int (zI (v))), (2, .ref oa)]) hx hb dL_width_12 rfl hl (by decide) rfl (fun ls hl => ?_)
    refine z_iconst hx hb dL_width_13 ?_
    refine W.widen (k := 1) (n := 6) (Nat.le_of_ble_eq_true rfl) (Nat.le_of_ble_eq_true rfl) ?_
    exact z_wri () hx hb hr hlocks hK (by rw [if_neg (by rw [hcd]; decide)]; exact hP) (by rw [if_neg (by rw [hcd]; decide)]; exact hD) hS (trivial) (hcd.symm) dL_width_14
  · skip
    have hcd : (cWid v) = 0 := hok9
    obtain ⟨hP, hD⟩ := va_joinQ (X := ol G oa ov :: xL G xx pg ik mx co pa cv ca cb ar nx w h pts cnt most rch M C P cc L V (Fof cs)) (pl := clAll G cs) (wr := [ol G oa ov]) hP hD [1, 2, 3, 4, 5, 6, 7, 8, 9, 10] [0] rfl rfl rfl (by decide) hk9 hsubx hP9 hD9
    have hP : zP G ((ol G oa (ov) :: xL G xx pg ik mx co pa cv ca cb ar nx w h pts cnt most v M C P cc L V (Fof cs)) ++ clAll G cs) H := hP
    have hD : va_D A ((ol G oa (ov) :: xL G xx pg ik mx co pa cv ca cb ar nx w h pts cnt most v M C P cc L V (Fof cs)) ++ clAll G cs) := hD
    refine z_i2lw hx hb dL_width_7 ?_
    refine z_last (ws' := (ol G oa ((zI (rch)).toInt) :: xL G xx pg ik mx co pa cv ca cb ar nx w h pts cnt most v M C P cc L V (Fof cs)) ++ clAll G cs) hx hb hK hP hD hS 0 rfl dL_width_8 rfl (fun H locs hP hD hS => ?_)
    refine z_goto (tgt := 15) hx hb dL_width_9 (by decide) ?_
    refine z_iconst hx hb dL_width_15 ?_
    refine W.widen (k := 1) (n := 6) (Nat.le_of_ble_eq_true rfl) (Nat.le_of_ble_eq_true rfl) ?_
    exact z_wri () hx hb hr hlocks hK (by rw [if_pos hcd]; exact hP) (by rw [if_pos hcd]; exact hD) hS (trivial) (hcd.symm) dL_width_16

set_option maxHeartbeats 4000000 in
set_option maxRecDepth 100000 in
theorem c_L_gain (l : Launch) (hst : l.stackTraces = false) (G : zG) (xx pg ik mx co pa cv ca cb ar : Nat) (nx w h pts cnt most rch : Int) (M C P : Int → Int) (cc : Int) (L V : Int → Int) (cs : List cT) (v x : Int) (oa : Nat) (ov : Int) (hp : pgOK w h pts cnt most rch M C P) (hvv : cvOK cc L V) (hnx : 0 ≤ nx ∧ nx ≤ 6) (hcs : csOK cs) (hnl : nx = (cs.length : Int)) (hv : -2147483648 ≤ v ∧ v ≤ 2147483647) (hx : -2147483648 ≤ x ∧ x ≤ 2147483647) : zWh l yL_gain cL_gain 4 (some .int) [(0, 6, 9, 13), (0, 6, 12, 15)] { frames := 7, cells := 1, slots := 6, locals := 104 } G [.ref xx, .int (zI (v)), .int (zI (x))] ((ol G oa (ov) :: xL G xx pg ik mx co pa cv ca cb ar nx w h pts cnt most rch M C P cc L V (Fof cs)) ++ clAll G cs) (S := Unit) (fun u => (cGai v x (if cc < 12 ∨ L (ffV cc L v) = v then 0 else 1))) (fun u => True) (fun u => if (cGai v x (if cc < 12 ∨ L (ffV cc L v) = v then 0 else 1)) = 0 then (ol G oa (ov) :: xL G xx pg ik mx co pa cv ca cb ar nx w h pts cnt most rch M C P (putC cc L v) (putF cc L v L v) (putF cc L v V x) (Fof cs)) ++ clAll G cs else (ol G oa (ov) :: xL G xx pg ik mx co pa cv ca cb ar nx w h pts cnt most rch M C P cc L V (Fof cs)) ++ clAll G cs) := by
  intro sz
  refine va_MetW (cc := cL_gain) (maxL := 4) (ret := (some .int)) (hh := [(0, 6, 9, 13), (0, 6, 12, 15)]) (by decide) rfl ?_
  intro p e s m args below meth c s₁ B hml hv
  obtain ⟨rfl, hsz, hP, hK, hD0, hX, hN⟩ := hv
  have hx := B.exec
  have hb := B.bytes
  have hr := B.returns
  have hT : ∀ w ∈ TB, w.before _ s = true := fun w h => atoms_spec (ws := Cond.codeWith yL_gain cL_gain 4 (some .int) [(0, 6, 9, 13), (0, 6, 12, 15)] :: TB) B.pre w (List.mem_cons_of_mem _ h)
  have hcw := atoms_spec (ws := Cond.codeWith yL_gain cL_gain 4 (some .int) [(0, 6, 9, 13), (0, 6, 12, 15)] :: TB) B.pre _ List.mem_cons_self
  have htab := vx_table (x := yL_gain) B hcw
  have hown : s.vm.findClass RL = some m.cls := findClass_of_methodNamed B.named
  have hlocks := B.notSynchronized
  subst hsz
  have hD := hD0.self (sz := s.heap.size)
  generalize hAe : va_A ((ol G oa (ov) :: xL G xx pg ik mx co pa cv ca cb ar nx w h pts cnt most rch M C P cc L V (Fof cs)) ++ clAll G cs) s.heap.size = A at hD hX ⊢
  have hA : ∀ q : Nat, s.heap.size ≤ q → A q := fun q h => by rw [← hAe]; exact Or.inr h
  have hS : va_S A s.heap s.heap [] := va_S.rf
  have hP : zP G ((ol G oa (ov) :: xL G xx pg ik mx co pa cv ca cb ar nx w h pts cnt most rch M C P cc L V (Fof cs)) ++ clAll G cs) s.heap := hP
  have hD : va_D A ((ol G oa (ov) :: xL G xx pg ik mx co pa cv ca cb ar nx w h pts cnt most rch M C P cc L V (Fof cs)) ++ clAll G cs) := hD
  have hl := lv_entry ([.ref xx, .int (zI (v)), .int (zI (x))]) (n := 4) (Nat.le_of_ble_eq_true rfl)
  rw [lg_entry_eq]
  generalize (lg_sl ([.ref xx, .int (zI (v)), .int (zI (x))]) ++ List.replicate (4 - (lg_sl ([.ref xx, .int (zI (v)), .int (zI (x))])).length) Slot.unset).toArray = ls at hl ⊢
  have hl : lv_has ls 4 [(0, .ref xx), (1, .int (zI (v))), (2, .int (zI (x)))] := hl
  obtain ⟨hw, hh, hpts, hcnt, hmost, hrch, hM, hC, hB⟩ := id hp
  have hpt := pgOK_pts hp
  obtain ⟨hcc, hL0, hLe, hLs, hLb, hVb⟩ := id hvv
  have hPx : zP G (xL G xx pg ik mx co pa cv ca cb ar nx w h pts cnt most rch M C P cc L V (Fof cs)) s.heap := (zP_left hP).sub [1, 2, 3, 4, 5, 6, 7, 8, 9, 10] rfl
  have hDx : va_D (fun _ => True) (xL G xx pg ik mx co pa cv ca cb ar nx w h pts cnt most rch M C P cc L V (Fof cs)) := (zD_left hD0).sub [1, 2, 3, 4, 5, 6, 7, 8, 9, 10] (by decide) rfl
  have hsubx : ∀ q, va_A (xL G xx pg ik mx co pa cv ca cb ar nx w h pts cnt most rch M C P cc L V (Fof cs)) s.heap.size q → A q := va_free (zD_left hD) hS hA [1, 2, 3, 4, 5, 6, 7, 8, 9, 10] rfl
  refine lv_aload_n hx hb dL_gain_0 rfl (lv_at hl 0 rfl) ?_
  refine lv_iload_n hx hb dL_gain_1 rfl (lv_at hl 1 rfl) ?_
  refine lv_iload_n hx hb dL_gain_2 rfl (lv_at hl 2 rfl) ?_
  refine z_hv (G := G) (q0 := 0) (As := [.int (zI (v)), .int (zI (x))]) (rest := []) hx hb hml hown hT hK hX (c_X4_gain l hst G xx pg ik mx co pa cv ca cb ar nx w h pts cnt most rch M C P cc L V (Fof cs) v x hp hvv hnx (by omega) (by omega)) kc_L_41 ⟨Nat.le_of_ble_eq_true rfl, Nat.le_of_ble_eq_true rfl⟩ ⟨Nat.le_of_ble_eq_true rfl, Nat.le_of_ble_eq_true rfl⟩ hPx hDx hsubx rfl rfl rfl rfl hl.1 rfl (Nat.le_of_ble_eq_true rfl) dL_gain_3 (fun E9 ce9 q9 H locs hE hk9 hS hce hcv hcl => ?_) (fun u9 H locs hok9 hk9 hP9 hD9 hS => ?_)
  · skip
    have hP : zP G ((ol G oa (ov) :: xL G xx pg ik mx co pa cv ca cb ar nx w h pts cnt most rch M C P cc L V (Fof cs)) ++ clAll G cs) H := va_P.kept hP (fun k9 q8 hq8 => hk9 _ (hP k9 q8 hq8).lt)
    rcases hE with ⟨rfl, hcd⟩ | ⟨rfl, hcd⟩
    · skip
      refine tc_catch (name := "java/lang/IllegalArgumentException") hown [] ⟨0, 6, 9, 13⟩ [⟨0, 6, 12, 15⟩] (htab.trans rfl) (fun z hz => nomatch hz) rfl (by decide) (hT _ (mT 176 (by decide +kernel) rfl)) (va_Nw.use (w := Cond.castable "java/lang/IllegalArgumentException" "java/lang/IllegalArgumentException") (ng_on _ (by decide +kernel)) (hX.2.2.2 _ (by decide +kernel))) hce hcv hcl ?_
      refine W.eq (g2 := F0 m 9 ls [.ref q9]) rfl ?_
      refine lv_astore_n (lv' := [(3, .ref q9), (0, .ref xx), (1, .int (zI (v))), (2, .int (zI (x)))]) hx hb dL_gain_9 rfl hl (by decide) rfl (fun ls hl => ?_)
      refine z_iconst hx hb dL_gain_10 ?_
      refine W.widen (k := 1) (n := 6) (Nat.le_of_ble_eq_true rfl) (Nat.le_of_ble_eq_true rfl) ?_
      exact z_wri () hx hb hr hlocks hK (by rw [if_neg (by rw [hcd]; decide)]; exact hP) (by rw [if_neg (by rw [hcd]; decide)]; exact hD) hS (trivial) (hcd.symm) dL_gain_11
    · skip
      refine tc_catch (name := "java/lang/UnsupportedOperationException") hown [(⟨0, 6, 9, 13⟩, "java/lang/IllegalArgumentException")] ⟨0, 6, 12, 15⟩ [] (htab.trans rfl) (fa1 ⟨rfl, by decide, hT _ (mT 176 (by decide +kernel) rfl), hN _ (by decide) _ (by decide) (by decide)⟩) rfl (by decide) (hT _ (mT 177 (by decide +kernel) rfl)) (va_Nw.use (w := Cond.castable "java/lang/UnsupportedOperationException" "java/lang/UnsupportedOperationException") (ng_on _ (by decide +kernel)) (hX.2.2.2 _ (by decide +kernel))) hce hcv hcl ?_
      refine W.eq (g2 := F0 m 12 ls [.ref q9]) rfl ?_
      refine lv_astore_n (lv' := [(3, .ref q9), (0, .ref xx), (1, .int (zI (v))), (2, .int (zI (x)))]) hx hb dL_gain_12 rfl hl (by decide) rfl (fun ls hl => ?_)
      refine z_iconst hx hb dL_gain_13 ?_
      refine W.widen (k := 1) (n := 6) (Nat.le_of_ble_eq_true rfl) (Nat.le_of_ble_eq_true rfl) ?_
      exact z_wri () hx hb hr hlocks hK (by rw [if_neg (by rw [hcd]; decide)]; exact hP) (by rw [if_neg (by rw [hcd]; decide)]; exact hD) hS (trivial) (hcd.symm) dL_gain_14
  · skip
    have hcd : (cGai v x (if cc < 12 ∨ L (ffV cc L v) = v then 0 else 1)) = 0 := hok9
    obtain ⟨hP, hD⟩ := va_joinQ (X := ol G oa ov :: xL G xx pg ik mx co pa cv ca cb ar nx w h pts cnt most rch M C P cc L V (Fof cs)) (pl := clAll G cs) (wr := [ol G oa ov]) hP hD [1, 2, 3, 4, 5, 6, 7, 8, 9, 10] [0] rfl rfl rfl (by decide) hk9 hsubx hP9 hD9
    have hP : zP G ((ol G oa (ov) :: xL G xx pg ik mx co pa cv ca cb ar nx w h pts cnt most rch M C P (putC cc L v) (putF cc L v L v) (putF cc L v V x) (Fof cs)) ++ clAll G cs) H := hP
    have hD : va_D A ((ol G oa (ov) :: xL G xx pg ik mx co pa cv ca cb ar nx w h pts cnt most rch M C P (putC cc L v) (putF cc L v L v) (putF cc L v V x) (Fof cs)) ++ clAll G cs) := hD
    refine z_goto (tgt := 15) hx hb dL_gain_6 (by decide) ?_
    refine z_iconst hx hb dL_gain_15 ?_
    refine W.widen (k := 1) (n := 6) (Nat.le_of_ble_eq_true rfl) (Nat.le_of_ble_eq_true rfl) ?_
    exact z_wri () hx hb hr hlocks hK (by rw [if_pos hcd]; exact hP) (by rw [if_pos hcd]; exact hD) hS (trivial) (hcd.symm) dL_gain_16

set_option maxHeartbeats 4000000 in
set_option maxRecDepth 100000 in
theorem c_L_cell_ (l : Launch) (hst : l.stackTraces = false) (G : zG) (xx pg ik mx co pa cv ca cb ar : Nat) (nx w h pts cnt most rch : Int) (M C P : Int → Int) (cc : Int) (L V : Int → Int) (cs : List cT) (a b : Int) (oa : Nat) (ov : Int) (hp : pgOK w h pts cnt most rch M C P) (hvv : cvOK cc L V) (hnx : 0 ≤ nx ∧ nx ≤ 6) (hcs : csOK cs) (hnl : nx = (cs.length : Int)) (ha : -2147483648 ≤ a ∧ a ≤ 2147483647) (hb : -2147483648 ≤ b ∧ b ≤ 2147483647) : zWh l yL_cell_ cL_cell_ 5 (some .int) [(0, 10, 13, 13), (0, 10, 17, 47), (0, 10, 21, 15)] { frames := 7, cells := 4, slots := 894, locals := 113 } G [.ref xx, .int (zI (a)), .int (zI (b)), .ref oa] ((ol G oa (ov) :: xL G xx pg ik mx co pa cv ca cb ar nx w h pts cnt most rch M C P cc L V (Fof cs)) ++ clAll G cs) (S := Nat × Nat × (Int → Int)) (fun u => (cCel a b nx)) (fun u => cCel a b nx = 0 → isM 288 ((((a * a + b * b).toNat : Nat)) : Int) (nmV (cdR a b 11) ((a * a + b * b) / (cdR a b 11)) (fiR a b (cdR a b 11) 25 % ((a * a + b * b) / (cdR a b 11)))) (full 12) u.2.2) (fun u => if (cCel a b nx) = 0 then (ol G oa ((zI (nx)).toInt) :: xL G xx pg ik mx co pa cv ca cb ar (nx + 1) w h pts cnt most rch M C P cc L V (Fof (cs ++ [cNew u.1 u.2.1 a b u.2.2]))) ++ clAll G (cs ++ [cNew u.1 u.2.1 a b u.2.2]) else (ol G oa (ov) :: xL G xx pg ik mx co pa cv ca cb ar nx w h pts cnt most rch M C P cc L V (Fof cs)) ++ clAll G cs) := by
  intro sz
  refine va_MetW (cc := cL_cell_) (maxL := 5) (ret := (some .int)) (hh := [(0, 10, 13, 13), (0, 10, 17, 47), (0, 10, 21, 15)]) (by decide) rfl ?_
  intro p e s m args below meth c s₁ B hml hv
  obtain ⟨rfl, hsz, hP, hK, hD0, hX, hN⟩ := hv
  have hx := B.exec
  have hb := B.bytes
  have hr := B.returns
  have hT : ∀ w ∈ TB, w.before _ s = true := fun w h => atoms_spec (ws := Cond.codeWith yL_cell_ cL_cell_ 5 (some .int) [(0, 10, 13, 13), (0, 10, 17, 47), (0, 10, 21, 15)] :: TB) B.pre w (List.mem_cons_of_mem _ h)
  have hcw := atoms_spec (ws := Cond.codeWith yL_cell_ cL_cell_ 5 (some .int) [(0, 10, 13, 13), (0, 10, 17, 47), (0, 10, 21, 15)] :: TB) B.pre _ List.mem_cons_self
  have htab := vx_table (x := yL_cell_) B hcw
  have hown : s.vm.findClass RL = some m.cls := findClass_of_methodNamed B.named
  have hlocks := B.notSynchronized
  subst hsz
  have hD := hD0.self (sz := s.heap.size)
  generalize hAe : va_A ((ol G oa (ov) :: xL G xx pg ik mx co pa cv ca cb ar nx w h pts cnt most rch M C P cc L V (Fof cs)) ++ clAll G cs) s.heap.size = A at hD hX ⊢
  have hA : ∀ q : Nat, s.heap.size ≤ q → A q := fun q h => by rw [← hAe]; exact Or.inr h
  have hS : va_S A s.heap s.heap [] := va_S.rf
  have hP : zP G ((ol G oa (ov) :: xL G xx pg ik mx co pa cv ca cb ar nx w h pts cnt most rch M C P cc L V (Fof cs)) ++ clAll G cs) s.heap := hP
  have hD : va_D A ((ol G oa (ov) :: xL G xx pg ik mx co pa cv ca cb ar nx w h pts cnt most rch M C P cc L V (Fof cs)) ++ clAll G cs) := hD
  have hl := lv_entry ([.ref xx, .int (zI (a)), .int (zI (b)), .ref oa]) (n := 5) (Nat.le_of_ble_eq_true rfl)
  rw [lg_entry_eq]
  generalize (lg_sl ([.ref xx, .int (zI (a)), .int (zI (b)), .ref oa]) ++ List.replicate (5 - (lg_sl ([.ref xx, .int (zI (a)), .int (zI (b)), .ref oa])).length) Slot.unset).toArray = ls at hl ⊢
  have hl : lv_has ls 5 [(0, .ref xx), (1, .int (zI (a))), (2, .int (zI (b))), (3, .ref oa)] := hl
  obtain ⟨hw, hh, hpts, hcnt, hmost, hrch, hM, hC, hB⟩ := id hp
  have hpt := pgOK_pts hp
  obtain ⟨hcc, hL0, hLe, hLs, hLb, hVb⟩ := id hvv
  have hPx : zP G (xL G xx pg ik mx co pa cv ca cb ar nx w h pts cnt most rch M C P cc L V (Fof cs) ++ clAll G cs) s.heap := zP_right (a := [ol G oa ov]) hP
  have hDx : va_D (fun _ => True) (xL G xx pg ik mx co pa cv ca cb ar nx w h pts cnt most rch M C P cc L V (Fof cs) ++ clAll G cs) := zD_right (a := [ol G oa ov]) hD0
  have hsubx : ∀ q, va_A (xL G xx pg ik mx co pa cv ca cb ar nx w h pts cnt most rch M C P cc L V (Fof cs) ++ clAll G cs) s.heap.size q → A q := va_freeP (X := ol G oa ov :: xL G xx pg ik mx co pa cv ca cb ar nx w h pts cnt most rch M C P cc L V (Fof cs)) hD hS hA [1, 2, 3, 4, 5, 6, 7, 8, 9, 10] rfl
  refine lv_aload_n hx hb dL_cell__0 rfl (lv_at hl 3 rfl) ?_
  refine z_iconst hx hb dL_cell__1 ?_
  refine lv_aload_n hx hb dL_cell__2 rfl (lv_at hl 0 rfl) ?_
  refine lv_iload_n hx hb dL_cell__3 rfl (lv_at hl 1 rfl) ?_
  refine lv_iload_n hx hb dL_cell__4 rfl (lv_at hl 2 rfl) ?_
  refine z_hi (G := G) (q0 := 0) (As := [.int (zI (a)), .int (zI (b))]) (rest := [.int (zI (0)), .ref oa]) hx hb hml hown hT hK hX (c_X4_cell l hst G xx pg ik mx co pa cv ca cb ar nx w h pts cnt most rch M C P cc L V cs a b hp hvv hnx hcs hnl (by omega) (by omega)) kc_L_44 ⟨Nat.le_of_ble_eq_true rfl, Nat.le_of_ble_eq_true rfl⟩ ⟨Nat.le_of_ble_eq_true rfl, Nat.le_of_ble_eq_true rfl⟩ hPx hDx hsubx rfl rfl rfl rfl hl.1 rfl (Nat.le_of_ble_eq_true rfl) dL_cell__5 (fun E9 ce9 q9 H locs hE hk9 hS hce hcv hcl => ?_) (fun u9 H locs hok9 hk9 hP9 hD9 hS => ?_)
  · skip
    have hP : zP G ((ol G oa (ov) :: xL G xx pg ik mx co pa cv ca cb ar nx w h pts cnt most rch M C P cc L V (Fof cs)) ++ clAll G cs) H := va_P.kept hP (fun k9 q8 hq8 => hk9 _ (hP k9 q8 hq8).lt)
    rcases hE with ⟨rfl, hcd⟩ | ⟨rfl, hcd⟩ | ⟨rfl, hcd⟩
    · skip
      refine tc_catch (name := "java/lang/IllegalArgumentException") hown [] ⟨0, 10, 13, 13⟩ [⟨0, 10, 17, 47⟩, ⟨0, 10, 21, 15⟩] (htab.trans rfl) (fun z hz => nomatch hz) rfl (by decide) (hT _ (mT 176 (by decide +kernel) rfl)) (va_Nw.use (w := Cond.castable "java/lang/IllegalArgumentException" "java/lang/IllegalArgumentException") (ng_on _ (by decide +kernel)) (hX.2.2.2 _ (by decide +kernel))) hce hcv hcl ?_
      refine W.eq (g2 := F0 m 13 ls [.ref q9]) rfl ?_
      refine lv_astore (lv' := [(4, .ref q9), (0, .ref xx), (1, .int (zI (a))), (2, .int (zI (b))), (3, .ref oa)]) hx hb dL_cell__13 hl (by decide) rfl (fun ls hl => ?_)
      refine z_iconst hx hb dL_cell__15 ?_
      refine W.widen (k := 4) (n := 894) (Nat.le_of_ble_eq_true rfl) (Nat.le_of_ble_eq_true rfl) ?_
      exact z_wri (0, 0, fun _ => 0) hx hb hr hlocks hK (by rw [if_neg (by rw [hcd]; decide)]; exact hP) (by rw [if_neg (by rw [hcd]; decide)]; exact hD) hS (fun h9 => absurd (hcd.symm.trans h9) (by decide)) (hcd.symm) dL_cell__16
    · skip
      refine tc_catch (name := "java/lang/ArithmeticException") hown [(⟨0, 10, 13, 13⟩, "java/lang/IllegalArgumentException")] ⟨0, 10, 17, 47⟩ [⟨0, 10, 21, 15⟩] (htab.trans rfl) (fa1 ⟨rfl, by decide, hT _ (mT 176 (by decide +kernel) rfl), hN _ (by decide) _ (by decide) (by decide)⟩) rfl (by decide) (hT _ (mT 410 (by decide +kernel) rfl)) (va_Nw.use (w := Cond.castable "java/lang/ArithmeticException" "java/lang/ArithmeticException") (ng_on _ (by decide +kernel)) (hX.2.2.2 _ (by decide +kernel))) hce hcv hcl ?_
      refine W.eq (g2 := F0 m 17 ls [.ref q9]) rfl ?_
      refine lv_astore (lv' := [(4, .ref q9), (0, .ref xx), (1, .int (zI (a))), (2, .int (zI (b))), (3, .ref oa)]) hx hb dL_cell__17 hl (by decide) rfl (fun ls hl => ?_)
      refine z_iconst hx hb dL_cell__19 ?_
      refine W.widen (k := 4) (n := 894) (Nat.le_of_ble_eq_true rfl) (Nat.le_of_ble_eq_true rfl) ?_
      exact z_wri (0, 0, fun _ => 0) hx hb hr hlocks hK (by rw [if_neg (by rw [hcd]; decide)]; exact hP) (by rw [if_neg (by rw [hcd]; decide)]; exact hD) hS (fun h9 => absurd (hcd.symm.trans h9) (by decide)) (hcd.symm) dL_cell__20
    · skip
      refine tc_catch (name := "java/lang/UnsupportedOperationException") hown [(⟨0, 10, 13, 13⟩, "java/lang/IllegalArgumentException"), (⟨0, 10, 17, 47⟩, "java/lang/ArithmeticException")] ⟨0, 10, 21, 15⟩ [] (htab.trans rfl) (fa2 ⟨rfl, by decide, hT _ (mT 176 (by decide +kernel) rfl), hN _ (by decide) _ (by decide) (by decide)⟩ ⟨rfl, by decide, hT _ (mT 410 (by decide +kernel) rfl), hN _ (by decide) _ (by decide) (by decide)⟩) rfl (by decide) (hT _ (mT 177 (by decide +kernel) rfl)) (va_Nw.use (w := Cond.castable "java/lang/UnsupportedOperationException" "java/lang/UnsupportedOperationException") (ng_on _ (by decide +kernel)) (hX.2.2.2 _ (by decide +kernel))) hce hcv hcl ?_
      refine W.eq (g2 := F0 m 21 ls [.ref q9]) rfl ?_
      refine lv_astore (lv' := [(4, .ref q9), (0, .ref xx), (1, .int (zI (a))), (2, .int (zI (b))), (3, .ref oa)]) hx hb dL_cell__21 hl (by decide) rfl (fun ls hl => ?_)
      refine z_iconst hx hb dL_cell__23 ?_
      refine W.widen (k := 4) (n := 894) (Nat.le_of_ble_eq_true rfl) (Nat.le_of_ble_eq_true rfl) ?_
      exact z_wri (0, 0, fun _ => 0) hx hb hr hlocks hK (by rw [if_neg (by rw [hcd]; decide)]; exact hP) (by rw [if_neg (by rw [hcd]; decide)]; exact hD) hS (fun h9 => absurd (hcd.symm.trans h9) (by decide)) (hcd.symm) dL_cell__24
  · skip
    obtain ⟨ce, ra, S⟩ := u9
    dsimp only at hok9 hP9 hD9
    have hcd : (cCel a b nx) = 0 := hok9.1
    obtain ⟨hP, hD⟩ := va_joinP (X := ol G oa ov :: xL G xx pg ik mx co pa cv ca cb ar nx w h pts cnt most rch M C P cc L V (Fof cs)) (cx := xL G xx pg ik mx co pa cv ca cb ar nx w h pts cnt most rch M C P cc L V (Fof cs)) (pl := clAll G cs) (wr := [ol G oa ov]) (rx := xL G xx pg ik mx co pa cv ca cb ar (nx + 1) w h pts cnt most rch M C P cc L V (Fof (cs ++ [cNew ce ra a b S]))) (pl1 := clAll G (cs ++ [cNew ce ra a b S])) hP hD [1, 2, 3, 4, 5, 6, 7, 8, 9, 10] [0] rfl rfl rfl (by decide) hk9 hsubx hP9 hD9
    have hP : zP G ((ol G oa (ov) :: xL G xx pg ik mx co pa cv ca cb ar (nx + 1) w h pts cnt most rch M C P cc L V (Fof (cs ++ [cNew ce ra a b S]))) ++ clAll G (cs ++ [cNew ce ra a b S])) H := hP
    have hD : va_D A ((ol G oa (ov) :: xL G xx pg ik mx co pa cv ca cb ar (nx + 1) w h pts cnt most rch M C P cc L V (Fof (cs ++ [cNew ce ra a b S]))) ++ clAll G (cs ++ [cNew ce ra a b S])) := hD
    refine z_i2lw hx hb dL_cell__8 ?_
    refine z_last (ws' := (ol G oa ((zI (nx)).toInt) :: xL G xx pg ik mx co pa cv ca cb ar (nx + 1) w h pts cnt most rch M C P cc L V (Fof (cs ++ [cNew ce ra a b S]))) ++ clAll G (cs ++ [cNew ce ra a b S])) hx hb hK hP hD hS 0 rfl dL_cell__9 rfl (fun H locs hP hD hS => ?_)
    refine z_goto (tgt := 25) hx hb dL_cell__10 (by decide) ?_
    refine z_iconst hx hb dL_cell__25 ?_
    refine W.widen (k := 4) (n := 894) (Nat.le_of_ble_eq_true rfl) (Nat.le_of_ble_eq_true rfl) ?_
    exact z_wri (ce, ra, S) hx hb hr hlocks hK (by rw [if_pos hcd]; exact hP) (by rw [if_pos hcd]; exact hD) hS (fun _ => hok9.2) (hcd.symm) dL_cell__26

set_option maxHeartbeats 4000000 in
set_option maxRecDepth 100000 in
theorem c_L_rank (l : Launch) (hst : l.stackTraces = false) (G : zG) (xx pg ik mx co pa cv ca cb ar : Nat) (nx w h pts cnt most rch : Int) (M C P : Int → Int) (cc : Int) (L V : Int → Int) (cs : List cT) (c9 i : Int) (oa : Nat) (ov : Int) (hp : pgOK w h pts cnt most rch M C P) (hvv : cvOK cc L V) (hnx : 0 ≤ nx ∧ nx ≤ 6) (hcs : csOK cs) (hnl : nx = (cs.length : Int)) (hc9 : -2147483648 ≤ c9 ∧ c9 ≤ 2147483647) (hi : -2147483648 ≤ i ∧ i ≤ 2147483647) : zWh l yL_rank cL_rank 5 (some .int) [(0, 10, 13, 21)] { frames := 9, cells := 2, slots := 12, locals := 140 } G [.ref xx, .int (zI (c9)), .int (zI (i)), .ref oa] ((ol G oa (ov) :: xL G xx pg ik mx co pa cv ca cb ar nx w h pts cnt most rch M C P cc L V (Fof cs)) ++ clAll G cs) (S := Unit) (fun u => (cRan c9 i nx ((cAt cs c9).2.2.1 : Int))) (fun u => True) (fun u => if (cRan c9 i nx ((cAt cs c9).2.2.1 : Int)) = 0 then (ol G oa ((zI ((if i = -1 then ((cAt cs c9).2.2.1 : Int) else (cAt cs c9).2.2.2.2.2.2 i))).toInt) :: xL G xx pg ik mx co pa cv ca cb ar nx w h pts cnt most rch M C P cc L V (Fof cs)) ++ clAll G cs else (ol G oa (ov) :: xL G xx pg ik mx co pa cv ca cb ar nx w h pts cnt most rch M C P cc L V (Fof cs)) ++ clAll G cs) := by
  intro sz
  refine va_MetW (cc := cL_rank) (maxL := 5) (ret := (some .int)) (hh := [(0, 10, 13, 21)]) (by decide) rfl ?_
  intro p e s m args below meth c s₁ B hml hv
  obtain ⟨rfl, hsz, hP, hK, hD0, hX, hN⟩ := hv
  have hx := B.exec
  have hb := B.bytes
  have hr := B.returns
  have hT : ∀ w ∈ TB, w.before _ s = true := fun w h => atoms_spec (ws := Cond.codeWith yL_rank cL_rank 5 (some .int) [(0, 10, 13, 21)] :: TB) B.pre w (List.mem_cons_of_mem _ h)
  have hcw := atoms_spec (ws := Cond.codeWith yL_rank cL_rank 5 (some .int) [(0, 10, 13, 21)] :: TB) B.pre _ List.mem_cons_self
  have htab := vx_table (x := yL_rank) B hcw
  have hown : s.vm.findClass RL = some m.cls := findClass_of_methodNamed B.named
  have hlocks := B.notSynchronized
  subst hsz
  have hD := hD0.self (sz := s.heap.size)
  generalize hAe : va_A ((ol G oa (ov) :: xL G xx pg ik mx co pa cv ca cb ar nx w h pts cnt most rch M C P cc L V (Fof cs)) ++ clAll G cs) s.heap.size = A at hD hX ⊢
  have hA : ∀ q : Nat, s.heap.size ≤ q → A q := fun q h => by rw [← hAe]; exact Or.inr h
  have hS : va_S A s.heap s.heap [] := va_S.rf
  have hP : zP G ((ol G oa (ov) :: xL G xx pg ik mx co pa cv ca cb ar nx w h pts cnt most rch M C P cc L V (Fof cs)) ++ clAll G cs) s.heap := hP
  have hD : va_D A ((ol G oa (ov) :: xL G xx pg ik mx co pa cv ca cb ar nx w h pts cnt most rch M C P cc L V (Fof cs)) ++ clAll G cs) := hD
  have hl := lv_entry ([.ref xx, .int (zI (c9)), .int (zI (i)), .ref oa]) (n := 5) (Nat.le_of_ble_eq_true rfl)
  rw [lg_entry_eq]
  generalize (lg_sl ([.ref xx, .int (zI (c9)), .int (zI (i)), .ref oa]) ++ List.replicate (5 - (lg_sl ([.ref xx, .int (zI (c9)), .int (zI (i)), .ref oa])).length) Slot.unset).toArray = ls at hl ⊢
  have hl : lv_has ls 5 [(0, .ref xx), (1, .int (zI (c9))), (2, .int (zI (i))), (3, .ref oa)] := hl
  obtain ⟨hw, hh, hpts, hcnt, hmost, hrch, hM, hC, hB⟩ := id hp
  have hpt := pgOK_pts hp
  obtain ⟨hcc, hL0, hLe, hLs, hLb, hVb⟩ := id hvv
  have hPx : zP G (xL G xx pg ik mx co pa cv ca cb ar nx w h pts cnt most rch M C P cc L V (Fof cs) ++ clAll G cs) s.heap := zP_right (a := [ol G oa ov]) hP
  have hDx : va_D (fun _ => True) (xL G xx pg ik mx co pa cv ca cb ar nx w h pts cnt most rch M C P cc L V (Fof cs) ++ clAll G cs) := zD_right (a := [ol G oa ov]) hD0
  have hsubx : ∀ q, va_A (xL G xx pg ik mx co pa cv ca cb ar nx w h pts cnt most rch M C P cc L V (Fof cs) ++ clAll G cs) s.heap.size q → A q := va_freeP (X := ol G oa ov :: xL G xx pg ik mx co pa cv ca cb ar nx w h pts cnt most rch M C P cc L V (Fof cs)) hD hS hA [1, 2, 3, 4, 5, 6, 7, 8, 9, 10] rfl
  refine lv_aload_n hx hb dL_rank_0 rfl (lv_at hl 3 rfl) ?_
  refine z_iconst hx hb dL_rank_1 ?_
  refine lv_aload_n hx hb dL_rank_2 rfl (lv_at hl 0 rfl) ?_
  refine lv_iload_n hx hb dL_rank_3 rfl (lv_at hl 1 rfl) ?_
  refine lv_iload_n hx hb dL_rank_4 rfl (lv_at hl 2 rfl) ?_
  refine z_hi (G := G) (q0 := 0) (As := [.int (zI (c9)), .int (zI (i))]) (rest := [.int (zI (0)), .ref oa]) hx hb hml hown hT hK hX (c_X4_rank l hst G xx pg ik mx co pa cv ca cb ar nx w h pts cnt most rch M C P cc L V cs c9 i hp hvv hnx hcs hnl (by omega) (by omega)) kc_L_49 ⟨Nat.le_of_ble_eq_true rfl, Nat.le_of_ble_eq_true rfl⟩ ⟨Nat.le_of_ble_eq_true rfl, Nat.le_of_ble_eq_true rfl⟩ hPx hDx hsubx rfl rfl rfl rfl hl.1 rfl (Nat.le_of_ble_eq_true rfl) dL_rank_5 (fun E9 ce9 q9 H locs hE hk9 hS hce hcv hcl => ?_) (fun u9 H locs hok9 hk9 hP9 hD9 hS => ?_)
  · skip
    have hP : zP G ((ol G oa (ov) :: xL G xx pg ik mx co pa cv ca cb ar nx w h pts cnt most rch M C P cc L V (Fof cs)) ++ clAll G cs) H := va_P.kept hP (fun k9 q8 hq8 => hk9 _ (hP k9 q8 hq8).lt)
    obtain ⟨rfl, hcd⟩ := hE
    refine tc_catch (name := "java/lang/ArrayIndexOutOfBoundsException") hown [] ⟨0, 10, 13, 21⟩ [] (htab.trans rfl) (fun z hz => nomatch hz) rfl (by decide) (hT _ (mT 277 (by decide +kernel) rfl)) (va_Nw.use (w := Cond.castable "java/lang/ArrayIndexOutOfBoundsException" "java/lang/ArrayIndexOutOfBoundsException") (ng_on _ (by decide +kernel)) (hX.2.2.2 _ (by decide +kernel))) hce hcv hcl ?_
    refine W.eq (g2 := F0 m 13 ls [.ref q9]) rfl ?_
    refine lv_astore (lv' := [(4, .ref q9), (0, .ref xx), (1, .int (zI (c9))), (2, .int (zI (i))), (3, .ref oa)]) hx hb dL_rank_13 hl (by decide) rfl (fun ls hl => ?_)
    refine z_iconst hx hb dL_rank_15 ?_
    refine W.widen (k := 2) (n := 12) (Nat.le_of_ble_eq_true rfl) (Nat.le_of_ble_eq_true rfl) ?_
    exact z_wri () hx hb hr hlocks hK (by rw [if_neg (by rw [hcd]; decide)]; exact hP) (by rw [if_neg (by rw [hcd]; decide)]; exact hD) hS (trivial) (hcd.symm) dL_rank_16
  · skip
    have hcd : (cRan c9 i nx ((cAt cs c9).2.2.1 : Int)) = 0 := hok9
    obtain ⟨hP, hD⟩ := va_joinP (X := ol G oa ov :: xL G xx pg ik mx co pa cv ca cb ar nx w h pts cnt most rch M C P cc L V (Fof cs)) (cx := xL G xx pg ik mx co pa cv ca cb ar nx w h pts cnt most rch M C P cc L V (Fof cs)) (pl := clAll G cs) (wr := [ol G oa ov]) (rx := xL G xx pg ik mx co pa cv ca cb ar nx w h pts cnt most rch M C P cc L V (Fof cs)) (pl1 := clAll G cs) hP hD [1, 2, 3, 4, 5, 6, 7, 8, 9, 10] [0] rfl rfl rfl (by decide) hk9 hsubx hP9 hD9
    have hP : zP G ((ol G oa (ov) :: xL G xx pg ik mx co pa cv ca cb ar nx w h pts cnt most rch M C P cc L V (Fof cs)) ++ clAll G cs) H := hP
    have hD : va_D A ((ol G oa (ov) :: xL G xx pg ik mx co pa cv ca cb ar nx w h pts cnt most rch M C P cc L V (Fof cs)) ++ clAll G cs) := hD
    refine z_i2lw hx hb dL_rank_8 ?_
    refine z_last (ws' := (ol G oa ((zI ((if i = -1 then ((cAt cs c9).2.2.1 : Int) else (cAt cs c9).2.2.2.2.2.2 i))).toInt) :: xL G xx pg ik mx co pa cv ca cb ar nx w h pts cnt most rch M C P cc L V (Fof cs)) ++ clAll G cs) hx hb hK hP hD hS 0 rfl dL_rank_9 rfl (fun H locs hP hD hS => ?_)
    refine z_goto (tgt := 17) hx hb dL_rank_10 (by decide) ?_
    refine z_iconst hx hb dL_rank_17 ?_
    refine W.widen (k := 2) (n := 12) (Nat.le_of_ble_eq_true rfl) (Nat.le_of_ble_eq_true rfl) ?_
    exact z_wri () hx hb hr hlocks hK (by rw [if_pos hcd]; exact hP) (by rw [if_pos hcd]; exact hD) hS (trivial) (hcd.symm) dL_rank_18

set_option maxHeartbeats 4000000 in
set_option maxRecDepth 100000 in
theorem c_L_same (l : Launch) (hst : l.stackTraces = false) (G : zG) (xx pg ik mx co pa cv ca cb ar : Nat) (nx w h pts cnt most rch : Int) (M C P : Int → Int) (cc : Int) (L V : Int → Int) (cs : List cT) (c9 x y : Int) (oa : Nat) (ov : Int) (hp : pgOK w h pts cnt most rch M C P) (hvv : cvOK cc L V) (hnx : 0 ≤ nx ∧ nx ≤ 6) (hcs : csOK cs) (hnl : nx = (cs.length : Int)) (hc9 : -2147483648 ≤ c9 ∧ c9 ≤ 2147483647) (hx : -2147483648 ≤ x ∧ x ≤ 2147483647) (hy : -2147483648 ≤ y ∧ y ≤ 2147483647) : zWh l yL_same cL_same 6 (some .int) [(0, 12, 15, 21), (0, 12, 19, 13)] { frames := 9, cells := 2, slots := 12, locals := 141 } G [.ref xx, .int (zI (c9)), .int (zI (x)), .int (zI (y)), .ref oa] ((ol G oa (ov) :: xL G xx pg ik mx co pa cv ca cb ar nx w h pts cnt most rch M C P cc L V (Fof cs)) ++ clAll G cs) (S := Unit) (fun u => (cSam c9 x y nx)) (fun u => True) (fun u => if (cSam c9 x y nx) = 0 then (ol G oa ((zI ((nmV (cAt cs c9).2.2.2.1 (cAt cs c9).2.2.2.2.1 (cAt cs c9).2.2.2.2.2.1 x y))).toInt) :: xL G xx pg ik mx co pa cv ca cb ar nx w h pts cnt most rch M C P cc L V (Fof cs)) ++ clAll G cs else (ol G oa (ov) :: xL G xx pg ik mx co pa cv ca cb ar nx w h pts cnt most rch M C P cc L V (Fof cs)) ++ clAll G cs) := by
  intro sz
  refine va_MetW (cc := cL_same) (maxL := 6) (ret := (some .int)) (hh := [(0, 12, 15, 21), (0, 12, 19, 13)]) (by decide) rfl ?_
  intro p e s m args below meth c s₁ B hml hv
  obtain ⟨rfl, hsz, hP, hK, hD0, hX, hN⟩ := hv
  have hx := B.exec
  have hb := B.bytes
  have hr := B.returns
  have hT : ∀ w ∈ TB, w.before _ s = true := fun w h => atoms_spec (ws := Cond.codeWith yL_same cL_same 6 (some .int) [(0, 12, 15, 21), (0, 12, 19, 13)] :: TB) B.pre w (List.mem_cons_of_mem _ h)
  have hcw := atoms_spec (ws := Cond.codeWith yL_same cL_same 6 (some .int) [(0, 12, 15, 21), (0, 12, 19, 13)] :: TB) B.pre _ List.mem_cons_self
  have htab := vx_table (x := yL_same) B hcw
  have hown : s.vm.findClass RL = some m.cls := findClass_of_methodNamed B.named
  have hlocks := B.notSynchronized
  subst hsz
  have hD := hD0.self (sz := s.heap.size)
  generalize hAe : va_A ((ol G oa (ov) :: xL G xx pg ik mx co pa cv ca cb ar nx w h pts cnt most rch M C P cc L V (Fof cs)) ++ clAll G cs) s.heap.size = A at hD hX ⊢
  have hA : ∀ q : Nat, s.heap.size ≤ q → A q := fun q h => by rw [← hAe]; exact Or.inr h
  have hS : va_S A s.heap s.heap [] := va_S.rf
  have hP : zP G ((ol G oa (ov) :: xL G xx pg ik mx co pa cv ca cb ar nx w h pts cnt most rch M C P cc L V (Fof cs)) ++ clAll G cs) s.heap := hP
  have hD : va_D A ((ol G oa (ov) :: xL G xx pg ik mx co pa cv ca cb ar nx w h pts cnt most rch M C P cc L V (Fof cs)) ++ clAll G cs) := hD
  have hl := lv_entry ([.ref xx, .int (zI (c9)), .int (zI (x)), .int (zI (y)), .ref oa]) (n := 6) (Nat.le_of_ble_eq_true rfl)
  rw [lg_entry_eq]
  generalize (lg_sl ([.ref xx, .int (zI (c9)), .int (zI (x)), .int (zI (y)), .ref oa]) ++ List.replicate (6 - (lg_sl ([.ref xx, .int (zI (c9)), .int (zI (x)), .int (zI (y)), .ref oa])).length) Slot.unset).toArray = ls at hl ⊢
  have hl : lv_has ls 6 [(0, .ref xx), (1, .int (zI (c9))), (2, .int (zI (x))), (3, .int (zI (y))), (4, .ref oa)] := hl
  obtain ⟨hw, hh, hpts, hcnt, hmost, hrch, hM, hC, hB⟩ := id hp
  have hpt := pgOK_pts hp
  obtain ⟨hcc, hL0, hLe, hLs, hLb, hVb⟩ := id hvv
  have hPx : zP G (xL G xx pg ik mx co pa cv ca cb ar nx w h pts cnt most rch M C P cc L V (Fof cs) ++ clAll G cs) s.heap := zP_right (a := [ol G oa ov]) hP
  have hDx : va_D (fun _ => True) (xL G xx pg ik mx co pa cv ca cb ar nx w h pts cnt most rch M C P cc L V (Fof cs) ++ clAll G cs) := zD_right (a := [ol G oa ov]) hD0
  have hsubx : ∀ q, va_A (xL G xx pg ik mx co pa cv ca cb ar nx w h pts cnt most rch M C P cc L V (Fof cs) ++ clAll G cs) s.heap.size q → A q := va_freeP (X := ol G oa ov :: xL G xx pg ik mx co pa cv ca cb ar nx w h pts cnt most rch M C P cc L V (Fof cs)) hD hS hA [1, 2, 3, 4, 5, 6, 7, 8, 9, 10] rfl
  refine lv_aload hx hb dL_same_0 (lv_at hl 4 rfl) ?_
  refine z_iconst hx hb dL_same_2 ?_
  refine lv_aload_n hx hb dL_same_3 rfl (lv_at hl 0 rfl) ?_
  refine lv_iload_n hx hb dL_same_4 rfl (lv_at hl 1 rfl) ?_
  refine lv_iload_n hx hb dL_same_5 rfl (lv_at hl 2 rfl) ?_
  refine lv_iload_n hx hb dL_same_6 rfl (lv_at hl 3 rfl) ?_
  refine z_hi (G := G) (q0 := 0) (As := [.int (zI (c9)), .int (zI (x)), .int (zI (y))]) (rest := [.int (zI (0)), .ref oa]) hx hb hml hown hT hK hX (c_X4_same l hst G xx pg ik mx co pa cv ca cb ar nx w h pts cnt most rch M C P cc L V cs c9 x y hp hvv hnx hcs hnl (by omega) (by omega) (by omega)) kc_L_52 ⟨Nat.le_of_ble_eq_true rfl, Nat.le_of_ble_eq_true rfl⟩ ⟨Nat.le_of_ble_eq_true rfl, Nat.le_of_ble_eq_true rfl⟩ hPx hDx hsubx rfl rfl rfl rfl hl.1 rfl (Nat.le_of_ble_eq_true rfl) dL_same_7 (fun E9 ce9 q9 H locs hE hk9 hS hce hcv hcl => ?_) (fun u9 H locs hok9 hk9 hP9 hD9 hS => ?_)
  · skip
    have hP : zP G ((ol G oa (ov) :: xL G xx pg ik mx co pa cv ca cb ar nx w h pts cnt most rch M C P cc L V (Fof cs)) ++ clAll G cs) H := va_P.kept hP (fun k9 q8 hq8 => hk9 _ (hP k9 q8 hq8).lt)
    rcases hE with ⟨rfl, hcd⟩ | ⟨rfl, hcd⟩
    · skip
      refine tc_catch (name := "java/lang/ArrayIndexOutOfBoundsException") hown [] ⟨0, 12, 15, 21⟩ [⟨0, 12, 19, 13⟩] (htab.trans rfl) (fun z hz => nomatch hz) rfl (by decide) (hT _ (mT 277 (by decide +kernel) rfl)) (va_Nw.use (w := Cond.castable "java/lang/ArrayIndexOutOfBoundsException" "java/lang/ArrayIndexOutOfBoundsException") (ng_on _ (by decide +kernel)) (hX.2.2.2 _ (by decide +kernel))) hce hcv hcl ?_
      refine W.eq (g2 := F0 m 15 ls [.ref q9]) rfl ?_
      refine lv_astore (lv' := [(5, .ref q9), (0, .ref xx), (1, .int (zI (c9))), (2, .int (zI (x))), (3, .int (zI (y))), (4, .ref oa)]) hx hb dL_same_15 hl (by decide) rfl (fun ls hl => ?_)
      refine z_iconst hx hb dL_same_17 ?_
      refine W.widen (k := 2) (n := 12) (Nat.le_of_ble_eq_true rfl) (Nat.le_of_ble_eq_true rfl) ?_
      exact z_wri () hx hb hr hlocks hK (by rw [if_neg (by rw [hcd]; decide)]; exact hP) (by rw [if_neg (by rw [hcd]; decide)]; exact hD) hS (trivial) (hcd.symm) dL_same_18
    · skip
      refine tc_catch (name := "java/lang/IllegalArgumentException") hown [(⟨0, 12, 15, 21⟩, "java/lang/ArrayIndexOutOfBoundsException")] ⟨0, 12, 19, 13⟩ [] (htab.trans rfl) (fa1 ⟨rfl, by decide, hT _ (mT 277 (by decide +kernel) rfl), hN _ (by decide) _ (by decide) (by decide)⟩) rfl (by decide) (hT _ (mT 176 (by decide +kernel) rfl)) (va_Nw.use (w := Cond.castable "java/lang/IllegalArgumentException" "java/lang/IllegalArgumentException") (ng_on _ (by decide +kernel)) (hX.2.2.2 _ (by decide +kernel))) hce hcv hcl ?_
      refine W.eq (g2 := F0 m 19 ls [.ref q9]) rfl ?_
      refine lv_astore (lv' := [(5, .ref q9), (0, .ref xx), (1, .int (zI (c9))), (2, .int (zI (x))), (3, .int (zI (y))), (4, .ref oa)]) hx hb dL_same_19 hl (by decide) rfl (fun ls hl => ?_)
      refine z_iconst hx hb dL_same_21 ?_
      refine W.widen (k := 2) (n := 12) (Nat.le_of_ble_eq_true rfl) (Nat.le_of_ble_eq_true rfl) ?_
      exact z_wri () hx hb hr hlocks hK (by rw [if_neg (by rw [hcd]; decide)]; exact hP) (by rw [if_neg (by rw [hcd]; decide)]; exact hD) hS (trivial) (hcd.symm) dL_same_22
  · skip
    have hcd : (cSam c9 x y nx) = 0 := hok9
    obtain ⟨hP, hD⟩ := va_joinP (X := ol G oa ov :: xL G xx pg ik mx co pa cv ca cb ar nx w h pts cnt most rch M C P cc L V (Fof cs)) (cx := xL G xx pg ik mx co pa cv ca cb ar nx w h pts cnt most rch M C P cc L V (Fof cs)) (pl := clAll G cs) (wr := [ol G oa ov]) (rx := xL G xx pg ik mx co pa cv ca cb ar nx w h pts cnt most rch M C P cc L V (Fof cs)) (pl1 := clAll G cs) hP hD [1, 2, 3, 4, 5, 6, 7, 8, 9, 10] [0] rfl rfl rfl (by decide) hk9 hsubx hP9 hD9
    have hP : zP G ((ol G oa (ov) :: xL G xx pg ik mx co pa cv ca cb ar nx w h pts cnt most rch M C P cc L V (Fof cs)) ++ clAll G cs) H := hP
    have hD : va_D A ((ol G oa (ov) :: xL G xx pg ik mx co pa cv ca cb ar nx w h pts cnt most rch M C P cc L V (Fof cs)) ++ clAll G cs) := hD
    refine z_i2lw hx hb dL_same_10 ?_
    refine z_last (ws' := (ol G oa ((zI ((nmV (cAt cs c9).2.2.2.1 (cAt cs c9).2.2.2.2.1 (cAt cs c9).2.2.2.2.2.1 x y))).toInt) :: xL G xx pg ik mx co pa cv ca cb ar nx w h pts cnt most rch M C P cc L V (Fof cs)) ++ clAll G cs) hx hb hK hP hD hS 0 rfl dL_same_11 rfl (fun H locs hP hD hS => ?_)
    refine z_goto (tgt := 23) hx hb dL_same_12 (by decide) ?_
    refine z_iconst hx hb dL_same_23 ?_
    refine W.widen (k := 2) (n := 12) (Nat.le_of_ble_eq_true rfl) (Nat.le_of_ble_eq_true rfl) ?_
    exact z_wri () hx hb hr hlocks hK (by rw [if_pos hcd]; exact hP) (by rw [if_pos hcd]; exact hD) hS (trivial) (hcd.symm) dL_same_24

set_option maxHeartbeats 4000000 in
set_option maxRecDepth 100000 in
theorem c_L_prints (l : Launch) (hst : l.stackTraces = false) (G : zG) (xx pg ik mx co pa cv ca cb ar : Nat) (nx w h pts cnt most rch : Int) (M C P : Int → Int) (cc : Int) (L V : Int → Int) (cs : List cT) (c9 k x y : Int) (oa : Nat) (ov : Int) (hp : pgOK w h pts cnt most rch M C P) (hvv : cvOK cc L V) (hnx : 0 ≤ nx ∧ nx ≤ 6) (hcs : csOK cs) (hnl : nx = (cs.length : Int)) (hc9 : -2147483648 ≤ c9 ∧ c9 ≤ 2147483647) (hk : -2147483648 ≤ k ∧ k ≤ 2147483647) (hx : -2147483648 ≤ x ∧ x ≤ 2147483647) (hy : -2147483648 ≤ y ∧ y ≤ 2147483647) : zWh l yL_prints cL_prints 7 (some .int) [(0, 21, 24, 21)] { frames := 9, cells := 3, slots := 18, locals := 143 } G [.ref xx, .int (zI (c9)), .int (zI (k)), .int (zI (x)), .int (zI (y)), .ref oa] ((ol G oa (ov) :: xL G xx pg ik mx co pa cv ca cb ar nx w h pts cnt most rch M C P cc L V (Fof cs)) ++ clAll G cs) (S := Unit) (fun u => (cPri c9 k x y nx cnt w h)) (fun u => True) (fun u => if (cPri c9 k x y nx cnt w h) = 0 then (ol G oa ((bI (decide ((cAt cs c9).2.2.2.2.2.2 (nmV (cAt cs c9).2.2.2.1 (cAt cs c9).2.2.2.2.1 (cAt cs c9).2.2.2.2.2.1 x y) < ((bentV cc L V (P (k * pts + (x + w * y)))) * ((cAt cs c9).2.2.1 : Int) + 127) / 255)))) :: xL G xx pg ik mx co pa cv ca cb ar nx w h pts cnt most rch M C P cc L V (Fof cs)) ++ clAll G cs else (ol G oa (ov) :: xL G xx pg ik mx co pa cv ca cb ar nx w h pts cnt most rch M C P cc L V (Fof cs)) ++ clAll G cs) := by
  intro sz
  refine va_MetW (cc := cL_prints) (maxL := 7) (ret := (some .int)) (hh := [(0, 21, 24, 21)]) (by decide) rfl ?_
  intro p e s m args below meth c s₁ B hml hv
  obtain ⟨rfl, hsz, hP, hK, hD0, hX, hN⟩ := hv
  have hx := B.exec
  have hb := B.bytes
  have hr := B.returns
  have hT : ∀ w ∈ TB, w.before _ s = true := fun w h => atoms_spec (ws := Cond.codeWith yL_prints cL_prints 7 (some .int) [(0, 21, 24, 21)] :: TB) B.pre w (List.mem_cons_of_mem _ h)
  have hcw := atoms_spec (ws := Cond.codeWith yL_prints cL_prints 7 (some .int) [(0, 21, 24, 21)] :: TB) B.pre _ List.mem_cons_self
  have htab := vx_table (x := yL_prints) B hcw
  have hown : s.vm.findClass RL = some m.cls := findClass_of_methodNamed B.named
  have hlocks := B.notSynchronized
  subst hsz
  have hD := hD0.self (sz := s.heap.size)
  generalize hAe : va_A ((ol G oa (ov) :: xL G xx pg ik mx co pa cv ca cb ar nx w h pts cnt most rch M C P cc L V (Fof cs)) ++ clAll G cs) s.heap.size = A at hD hX ⊢
  have hA : ∀ q : Nat, s.heap.size ≤ q → A q := fun q h => by rw [← hAe]; exact Or.inr h
  have hS : va_S A s.heap s.heap [] := va_S.rf
  have hP : zP G ((ol G oa (ov) :: xL G xx pg ik mx co pa cv ca cb ar nx w h pts cnt most rch M C P cc L V (Fof cs)) ++ clAll G cs) s.heap := hP
  have hD : va_D A ((ol G oa (ov) :: xL G xx pg ik mx co pa cv ca cb ar nx w h pts cnt most rch M C P cc L V (Fof cs)) ++ clAll G cs) := hD
  have hl := lv_entry ([.ref xx, .int (zI (c9)), .int (zI (k)), .int (zI (x)), .int (zI (y)), .ref oa]) (n := 7) (Nat.le_of_ble_eq_true rfl)
  rw [lg_entry_eq]
  generalize (lg_sl ([.ref xx, .int (zI (c9)), .int (zI (k)), .int (zI (x)), .int (zI (y)), .ref oa]) ++ List.replicate (7 - (lg_sl ([.ref xx, .int (zI (c9)), .int (zI (k)), .int (zI (x)), .int (zI (y)), .ref oa])).length) Slot.unset).toArray = ls at hl ⊢
  have hl : lv_has ls 7 [(0, .ref xx), (1, .int (zI (c9))), (2, .int (zI (k))), (3, .int (zI (x))), (4, .int (zI (y))), (5, .ref oa)] := hl
  obtain ⟨hw, hh, hpts, hcnt, hmost, hrch, hM, hC, hB⟩ := id hp
  have hpt := pgOK_pts hp
  obtain ⟨hcc, hL0, hLe, hLs, hLb, hVb⟩ := id hvv
  have hPx : zP G (xL G xx pg ik mx co pa cv ca cb ar nx w h pts cnt most rch M C P cc L V (Fof cs) ++ clAll G cs) s.heap := zP_right (a := [ol G oa ov]) hP
  have hDx : va_D (fun _ => True) (xL G xx pg ik mx co pa cv ca cb ar nx w h pts cnt most rch M C P cc L V (Fof cs) ++ clAll G cs) := zD_right (a := [ol G oa ov]) hD0
  have hsubx : ∀ q, va_A (xL G xx pg ik mx co pa cv ca cb ar nx w h pts cnt most rch M C P cc L V (Fof cs) ++ clAll G cs) s.heap.size q → A q := va_freeP (X := ol G oa ov :: xL G xx pg ik mx co pa cv ca cb ar nx w h pts cnt most rch M C P cc L V (Fof cs)) hD hS hA [1, 2, 3, 4, 5, 6, 7, 8, 9, 10] rfl
  refine lv_aload hx hb dL_prints_0 (lv_at hl 5 rfl) ?_
  refine z_iconst hx hb dL_prints_2 ?_
  refine lv_aload_n hx hb dL_prints_3 rfl (lv_at hl 0 rfl) ?_
  refine lv_iload_n hx hb dL_prints_4 rfl (lv_at hl 1 rfl) ?_
  refine lv_iload_n hx hb dL_prints_5 rfl (lv_at hl 2 rfl) ?_
  refine lv_iload_n hx hb dL_prints_6 rfl (lv_at hl 3 rfl) ?_
  refine lv_iload hx hb dL_prints_7 (lv_at hl 4 rfl) ?_
  refine z_hi (G := G) (q0 := 0) (As := [.int (zI (c9)), .int (zI (k)), .int (zI (x)), .int (zI (y))]) (rest := [.int (zI (0)), .ref oa]) hx hb hml hown hT hK hX (c_X4_prints l hst G xx pg ik mx co pa cv ca cb ar nx w h pts cnt most rch M C P cc L V cs c9 k x y hp hvv hnx hcs hnl (by omega) (by omega) (by omega) (by omega)) kc_L_56 ⟨Nat.le_of_ble_eq_true rfl, Nat.le_of_ble_eq_true rfl⟩ ⟨Nat.le_of_ble_eq_true rfl, Nat.le_of_ble_eq_true rfl⟩ hPx hDx hsubx rfl rfl rfl rfl hl.1 rfl (Nat.le_of_ble_eq_true rfl) dL_prints_9 (fun E9 ce9 q9 H locs hE hk9 hS hce hcv hcl => ?_) (fun u9 H locs hok9 hk9 hP9 hD9 hS => ?_)
  · skip
    have hP : zP G ((ol G oa (ov) :: xL G xx pg ik mx co pa cv ca cb ar nx w h pts cnt most rch M C P cc L V (Fof cs)) ++ clAll G cs) H := va_P.kept hP (fun k9 q8 hq8 => hk9 _ (hP k9 q8 hq8).lt)
    obtain ⟨rfl, hcd⟩ := hE
    refine tc_catch (name := "java/lang/ArrayIndexOutOfBoundsException") hown [] ⟨0, 21, 24, 21⟩ [] (htab.trans rfl) (fun z hz => nomatch hz) rfl (by decide) (hT _ (mT 277 (by decide +kernel) rfl)) (va_Nw.use (w := Cond.castable "java/lang/ArrayIndexOutOfBoundsException" "java/lang/ArrayIndexOutOfBoundsException") (ng_on _ (by decide +kernel)) (hX.2.2.2 _ (by decide +kernel))) hce hcv hcl ?_
    refine W.eq (g2 := F0 m 24 ls [.ref q9]) rfl ?_
    refine lv_astore (lv' := [(6, .ref q9), (0, .ref xx), (1, .int (zI (c9))), (2, .int (zI (k))), (3, .int (zI (x))), (4, .int (zI (y))), (5, .ref oa)]) hx hb dL_prints_24 hl (by decide) rfl (fun ls hl => ?_)
    refine z_iconst hx hb dL_prints_26 ?_
    refine W.widen (k := 3) (n := 18) (Nat.le_of_ble_eq_true rfl) (Nat.le_of_ble_eq_true rfl) ?_
    exact z_wri () hx hb hr hlocks hK (by rw [if_neg (by rw [hcd]; decide)]; exact hP) (by rw [if_neg (by rw [hcd]; decide)]; exact hD) hS (trivial) (hcd.symm) dL_prints_27
  · skip
    have hcd : (cPri c9 k x y nx cnt w h) = 0 := hok9
    obtain ⟨hP, hD⟩ := va_joinP (X := ol G oa ov :: xL G xx pg ik mx co pa cv ca cb ar nx w h pts cnt most rch M C P cc L V (Fof cs)) (cx := xL G xx pg ik mx co pa cv ca cb ar nx w h pts cnt most rch M C P cc L V (Fof cs)) (pl := clAll G cs) (wr := [ol G oa ov]) (rx := xL G xx pg ik mx co pa cv ca cb ar nx w h pts cnt most rch M C P cc L V (Fof cs)) (pl1 := clAll G cs) hP hD [1, 2, 3, 4, 5, 6, 7, 8, 9, 10] [0] rfl rfl rfl (by decide) hk9 hsubx hP9 hD9
    have hP : zP G ((ol G oa (ov) :: xL G xx pg ik mx co pa cv ca cb ar nx w h pts cnt most rch M C P cc L V (Fof cs)) ++ clAll G cs) H := hP
    have hD : va_D A ((ol G oa (ov) :: xL G xx pg ik mx co pa cv ca cb ar nx w h pts cnt most rch M C P cc L V (Fof cs)) ++ clAll G cs) := hD
    refine z_if_eq (tgt := 19) hx hb dL_prints_12 (by decide) (bI_rng _) (fun h12 => ?_) (fun h12 => ?_)
    · skip
      have h12 := bI_f.mp h12
      simp only [Bool.and_eq_true, Bool.and_eq_false_iff, Bool.or_eq_true, Bool.or_eq_false_iff, decide_eq_true_eq, decide_eq_false_iff_not] at h12
      refine lv_lconst (v := zL 0) hx hb dL_prints_19 rfl ?_
      refine z_topl ((bI (decide ((cAt cs c9).2.2.2.2.2.2 (nmV (cAt cs c9).2.2.2.1 (cAt cs c9).2.2.2.2.1 (cAt cs c9).2.2.2.2.2.1 x y) < ((bentV cc L V (P (k * pts + (x + w * y)))) * ((cAt cs c9).2.2.1 : Int) + 127) / 255)))) (by first | exact bI_1 h12 | exact bI_0 h12) ?_
      refine z_last (ws' := (ol G oa ((bI (decide ((cAt cs c9).2.2.2.2.2.2 (nmV (cAt cs c9).2.2.2.1 (cAt cs c9).2.2.2.2.1 (cAt cs c9).2.2.2.2.2.1 x y) < ((bentV cc L V (P (k * pts + (x + w * y)))) * ((cAt cs c9).2.2.1 : Int) + 127) / 255)))) :: xL G xx pg ik mx co pa cv ca cb ar nx w h pts cnt most rch M C P cc L V (Fof cs)) ++ clAll G cs) hx hb hK hP hD hS 0 rfl dL_prints_20 rfl (fun H locs hP hD hS => ?_)
      refine z_goto (tgt := 28) hx hb dL_prints_21 (by decide) ?_
      refine z_iconst hx hb dL_prints_28 ?_
      refine W.widen (k := 3) (n := 18) (Nat.le_of_ble_eq_true rfl) (Nat.le_of_ble_eq_true rfl) ?_
      exact z_wri () hx hb hr hlocks hK (by rw [if_pos hcd]; exact hP) (by rw [if_pos hcd]; exact hD) hS (trivial) (hcd.symm) dL_prints_29
    · skip
      have h12 := bI_t.mp h12
      simp only [Bool.and_eq_true, Bool.and_eq_false_iff, Bool.or_eq_true, Bool.or_eq_false_iff, decide_eq_true_eq, decide_eq_false_iff_not] at h12
      refine lv_lconst (v := zL 1) hx hb dL_prints_15 rfl ?_
      refine z_goto (tgt := 20) hx hb dL_prints_16 (by decide) ?_
      refine z_topl ((bI (decide ((cAt cs c9).2.2.2.2.2.2 (nmV (cAt cs c9).2.2.2.1 (cAt cs c9).2.2.2.2.1 (cAt cs c9).2.2.2.2.2.1 x y) < ((bentV cc L V (P (k * pts + (x + w * y)))) * ((cAt cs c9).2.2.1 : Int) + 127) / 255)))) (by first | exact bI_1 h12 | exact bI_0 h12) ?_
      refine z_last (ws' := (ol G oa ((bI (decide ((cAt cs c9).2.2.2.2.2.2 (nmV (cAt cs c9).2.2.2.1 (cAt cs c9).2.2.2.2.1 (cAt cs c9).2.2.2.2.2.1 x y) < ((bentV cc L V (P (k * pts + (x + w * y)))) * ((cAt cs c9).2.2.1 : Int) + 127) / 255)))) :: xL G xx pg ik mx co pa cv ca cb ar nx w h pts cnt most rch M C P cc L V (Fof cs)) ++ clAll G cs) hx hb hK hP hD hS 0 rfl dL_prints_20 rfl (fun H locs hP hD hS => ?_)
      refine z_goto (tgt := 28) hx hb dL_prints_21 (by decide) ?_
      refine z_iconst hx hb dL_prints_28 ?_
      refine W.widen (k := 3) (n := 18) (Nat.le_of_ble_eq_true rfl) (Nat.le_of_ble_eq_true rfl) ?_
      exact z_wri () hx hb hr hlocks hK (by rw [if_pos hcd]; exact hP) (by rw [if_pos hcd]; exact hD) hS (trivial) (hcd.symm) dL_prints_29

set_option maxHeartbeats 4000000 in
set_option maxRecDepth 100000 in
theorem c_L_covered (l : Launch) (hst : l.stackTraces = false) (G : zG) (xx pg ik mx co pa cv ca cb ar : Nat) (nx w h pts cnt most rch : Int) (M C P : Int → Int) (cc : Int) (L V : Int → Int) (cs : List cT) (k : Int) (oa : Nat) (ov : Int) (hp : pgOK w h pts cnt most rch M C P) (hvv : cvOK cc L V) (hnx : 0 ≤ nx ∧ nx ≤ 6) (hcs : csOK cs) (hnl : nx = (cs.length : Int)) (hk : -2147483648 ≤ k ∧ k ≤ 2147483647) : zWh l yL_covered cL_covered 4 (some .int) [(0, 8, 11, 21)] { frames := 9, cells := 1, slots := 6, locals := 140 } G [.ref xx, .int (zI (k)), .ref oa] ((ol G oa (ov) :: xL G xx pg ik mx co pa cv ca cb ar nx w h pts cnt most rch M C P cc L V (Fof cs)) ++ clAll G cs) (S := Unit) (fun u => (cCov k cnt)) (fun u => True) (fun u => if (cCov k cnt) = 0 then (ol G oa ((zsum (fun p9 => P (k * pts + p9)) pts.toNat)) :: xL G xx pg ik mx co pa cv ca cb ar nx w h pts cnt most rch M C P cc L V (Fof cs)) ++ clAll G cs else (ol G oa (ov) :: xL G xx pg ik mx co pa cv ca cb ar nx w h pts cnt most rch M C P cc L V (Fof cs)) ++ clAll G cs) := by
  intro sz
  refine va_MetW (cc := cL_covered) (maxL := 4) (ret := (some .int)) (hh := [(0, 8, 11, 21)]) (by decide) rfl ?_
  intro p e s m args below meth c s₁ B hml hv
  obtain ⟨rfl, hsz, hP, hK, hD0, hX, hN⟩ := hv
  have hx := B.exec
  have hb := B.bytes
  have hr := B.returns
  have hT : ∀ w ∈ TB, w.before _ s = true := fun w h => atoms_spec (ws := Cond.codeWith yL_covered cL_covered 4 (some .int) [(0, 8, 11, 21)] :: TB) B.pre w (List.mem_cons_of_mem _ h)
  have hcw := atoms_spec (ws := Cond.codeWith yL_covered cL_covered 4 (some .int) [(0, 8, 11, 21)] :: TB) B.pre _ List.mem_cons_self
  have htab := vx_table (x := yL_covered) B hcw
  have hown : s.vm.findClass RL = some m.cls := findClass_of_methodNamed B.named
  have hlocks := B.notSynchronized
  subst hsz
  have hD := hD0.self (sz := s.heap.size)
  generalize hAe : va_A ((ol G oa (ov) :: xL G xx pg ik mx co pa cv ca cb ar nx w h pts cnt most rch M C P cc L V (Fof cs)) ++ clAll G cs) s.heap.size = A at hD hX ⊢
  have hA : ∀ q : Nat, s.heap.size ≤ q → A q := fun q h => by rw [← hAe]; exact Or.inr h
  have hS : va_S A s.heap s.heap [] := va_S.rf
  have hP : zP G ((ol G oa (ov) :: xL G xx pg ik mx co pa cv ca cb ar nx w h pts cnt most rch M C P cc L V (Fof cs)) ++ clAll G cs) s.heap := hP
  have hD : va_D A ((ol G oa (ov) :: xL G xx pg ik mx co pa cv ca cb ar nx w h pts cnt most rch M C P cc L V (Fof cs)) ++ clAll G cs) := hD
  have hl := lv_entry ([.ref xx, .int (zI (k)), .ref oa]) (n := 4) (Nat.le_of_ble_eq_true rfl)
  rw [lg_entry_eq]
  generalize (lg_sl ([.ref xx, .int (zI (k)), .ref oa]) ++ List.replicate (4 - (lg_sl ([.ref xx, .int (zI (k)), .ref oa])).length) Slot.unset).toArray = ls at hl ⊢
  have hl : lv_has ls 4 [(0, .ref xx), (1, .int (zI (k))), (2, .ref oa)] := hl
  obtain ⟨hw, hh, hpts, hcnt, hmost, hrch, hM, hC, hB⟩ := id hp
  have hpt := pgOK_pts hp
  obtain ⟨hcc, hL0, hLe, hLs, hLb, hVb⟩ := id hvv
  have hPx : zP G (xL G xx pg ik mx co pa cv ca cb ar nx w h pts cnt most rch M C P cc L V (Fof cs)) s.heap := (zP_left hP).sub [1, 2, 3, 4, 5, 6, 7, 8, 9, 10] rfl
  have hDx : va_D (fun _ => True) (xL G xx pg ik mx co pa cv ca cb ar nx w h pts cnt most rch M C P cc L V (Fof cs)) := (zD_left hD0).sub [1, 2, 3, 4, 5, 6, 7, 8, 9, 10] (by decide) rfl
  have hsubx : ∀ q, va_A (xL G xx pg ik mx co pa cv ca cb ar nx w h pts cnt most rch M C P cc L V (Fof cs)) s.heap.size q → A q := va_free (zD_left hD) hS hA [1, 2, 3, 4, 5, 6, 7, 8, 9, 10] rfl
  refine lv_aload_n hx hb dL_covered_0 rfl (lv_at hl 2 rfl) ?_
  refine z_iconst hx hb dL_covered_1 ?_
  refine lv_aload_n hx hb dL_covered_2 rfl (lv_at hl 0 rfl) ?_
  refine lv_iload_n hx hb dL_covered_3 rfl (lv_at hl 1 rfl) ?_
  refine z_hl (G := G) (q0 := 0) (As := [.int (zI (k))]) (rest := [.int (zI (0)), .ref oa]) hx hb hml hown hT hK hX (c_X4_covered l hst G xx pg ik mx co pa cv ca cb ar nx w h pts cnt most rch M C P cc L V (Fof cs) k hp hvv hnx (by omega)) kc_L_60 ⟨Nat.le_of_ble_eq_true rfl, Nat.le_of_ble_eq_true rfl⟩ ⟨Nat.le_of_ble_eq_true rfl, Nat.le_of_ble_eq_true rfl⟩ hPx hDx hsubx rfl rfl rfl rfl hl.1 rfl (Nat.le_of_ble_eq_true rfl) dL_covered_4 (fun E9 ce9 q9 H locs hE hk9 hS hce hcv hcl => ?_) (fun u9 H locs hok9 hk9 hP9 hD9 hS => ?_)
  · skip
    have hP : zP G ((ol G oa (ov) :: xL G xx pg ik mx co pa cv ca cb ar nx w h pts cnt most rch M C P cc L V (Fof cs)) ++ clAll G cs) H := va_P.kept hP (fun k9 q8 hq8 => hk9 _ (hP k9 q8 hq8).lt)
    obtain ⟨rfl, hcd⟩ := hE
    refine tc_catch (name := "java/lang/ArrayIndexOutOfBoundsException") hown [] ⟨0, 8, 11, 21⟩ [] (htab.trans rfl) (fun z hz => nomatch hz) rfl (by decide) (hT _ (mT 277 (by decide +kernel) rfl)) (va_Nw.use (w := Cond.castable "java/lang/ArrayIndexOutOfBoundsException" "java/lang/ArrayIndexOutOfBoundsException") (ng_on _ (by decide +kernel)) (hX.2.2.2 _ (by decide +kernel))) hce hcv hcl ?_
    refine W.eq (g2 := F0 m 11 ls [.ref q9]) rfl ?_
    refine lv_astore_n (lv' := [(3, .ref q9), (0, .ref xx), (1, .int (zI (k))), (2, .ref oa)]) hx hb dL_covered_11 rfl hl (by decide) rfl (fun ls hl => ?_)
    refine z_iconst hx hb dL_covered_12 ?_
    refine W.widen (k := 1) (n := 6) (Nat.le_of_ble_eq_true rfl) (Nat.le_of_ble_eq_true rfl) ?_
    exact z_wri () hx hb hr hlocks hK (by rw [if_neg (by rw [hcd]; decide)]; exact hP) (by rw [if_neg (by rw [hcd]; decide)]; exact hD) hS (trivial) (hcd.symm) dL_covered_13
  · skip
    have hcd : (cCov k cnt) = 0 := hok9
    obtain ⟨hP, hD⟩ := va_joinQ (X := ol G oa ov :: xL G xx pg ik mx co pa cv ca cb ar nx w h pts cnt most rch M C P cc L V (Fof cs)) (pl := clAll G cs) (wr := [ol G oa ov]) hP hD [1, 2, 3, 4, 5, 6, 7, 8, 9, 10] [0] rfl rfl rfl (by decide) hk9 hsubx hP9 hD9
    have hP : zP G ((ol G oa (ov) :: xL G xx pg ik mx co pa cv ca cb ar nx w h pts cnt most rch M C P cc L V (Fof cs)) ++ clAll G cs) H := hP
    have hD : va_D A ((ol G oa (ov) :: xL G xx pg ik mx co pa cv ca cb ar nx w h pts cnt most rch M C P cc L V (Fof cs)) ++ clAll G cs) := hD
    refine z_last (ws' := (ol G oa ((zsum (fun p9 => P (k * pts + p9)) pts.toNat)) :: xL G xx pg ik mx co pa cv ca cb ar nx w h pts cnt most rch M C P cc L V (Fof cs)) ++ clAll G cs) hx hb hK hP hD hS 0 rfl dL_covered_7 rfl (fun H locs hP hD hS => ?_)
    refine z_goto (tgt := 14) hx hb dL_covered_8 (by decide) ?_
    refine z_iconst hx hb dL_covered_14 ?_
    refine W.widen (k := 1) (n := 6) (Nat.le_of_ble_eq_true rfl) (Nat.le_of_ble_eq_true rfl) ?_
    exact z_wri () hx hb hr hlocks hK (by rw [if_pos hcd]; exact hP) (by rw [if_pos hcd]; exact hD) hS (trivial) (hcd.symm) dL_covered_15

set_option maxHeartbeats 4000000 in
set_option maxRecDepth 100000 in
theorem c_L_packed (l : Launch) (hst : l.stackTraces = false) (G : zG) (xx pg ik mx co pa cv ca cb ar : Nat) (nx w h pts cnt most rch : Int) (M C P : Int → Int) (cc : Int) (L V : Int → Int) (cs : List cT) (k i : Int) (oa : Nat) (ov : Int) (hp : pgOK w h pts cnt most rch M C P) (hvv : cvOK cc L V) (hnx : 0 ≤ nx ∧ nx ≤ 6) (hcs : csOK cs) (hnl : nx = (cs.length : Int)) (hk : -2147483648 ≤ k ∧ k ≤ 2147483647) (hi : -2147483648 ≤ i ∧ i ≤ 2147483647) : zWh l yL_packed cL_packed 5 (some .int) [(0, 10, 13, 21)] { frames := 9, cells := 2, slots := 12, locals := 139 } G [.ref xx, .int (zI (k)), .int (zI (i)), .ref oa] ((ol G oa (ov) :: xL G xx pg ik mx co pa cv ca cb ar nx w h pts cnt most rch M C P cc L V (Fof cs)) ++ clAll G cs) (S := Unit) (fun u => (cPac k i cnt (2 * cntB (stR P pts w k) pts.toNat))) (fun u => True) (fun u => if (cPac k i cnt (2 * cntB (stR P pts w k) pts.toNat)) = 0 then (ol G oa ((zI ((if i = -1 then 2 * cntB (stR P pts w k) pts.toNat else (if i % 2 = 0 then endV (stR P pts w k) (srF (stR P pts w k) (i / 2) pts.toNat) pts - (srF (stR P pts w k) (i / 2) pts.toNat) else P (k * pts + (srF (stR P pts w k) (i / 2) pts.toNat)))))).toInt) :: xL G xx pg ik mx co pa cv ca cb ar nx w h pts cnt most rch M C P cc L V (Fof cs)) ++ clAll G cs else (ol G oa (ov) :: xL G xx pg ik mx co pa cv ca cb ar nx w h pts cnt most rch M C P cc L V (Fof cs)) ++ clAll G cs) := by
  intro sz
  refine va_MetW (cc := cL_packed) (maxL := 5) (ret := (some .int)) (hh := [(0, 10, 13, 21)]) (by decide) rfl ?_
  intro p e s m args below meth c s₁ B hml hv
  obtain ⟨rfl, hsz, hP, hK, hD0, hX, hN⟩ := hv
  have hx := B.exec
  have hb := B.bytes
  have hr := B.returns
  have hT : ∀ w ∈ TB, w.before _ s = true := fun w h => atoms_spec (ws := Cond.codeWith yL_packed cL_packed 5 (some .int) [(0, 10, 13, 21)] :: TB) B.pre w (List.mem_cons_of_mem _ h)
  have hcw := atoms_spec (ws := Cond.codeWith yL_packed cL_packed 5 (some .int) [(0, 10, 13, 21)] :: TB) B.pre _ List.mem_cons_self
  have htab := vx_table (x := yL_packed) B hcw
  have hown : s.vm.findClass RL = some m.cls := findClass_of_methodNamed B.named
  have hlocks := B.notSynchronized
  subst hsz
  have hD := hD0.self (sz := s.heap.size)
  generalize hAe : va_A ((ol G oa (ov) :: xL G xx pg ik mx co pa cv ca cb ar nx w h pts cnt most rch M C P cc L V (Fof cs)) ++ clAll G cs) s.heap.size = A at hD hX ⊢
  have hA : ∀ q : Nat, s.heap.size ≤ q → A q := fun q h => by rw [← hAe]; exact Or.inr h
  have hS : va_S A s.heap s.heap [] := va_S.rf
  have hP : zP G ((ol G oa (ov) :: xL G xx pg ik mx co pa cv ca cb ar nx w h pts cnt most rch M C P cc L V (Fof cs)) ++ clAll G cs) s.heap := hP
  have hD : va_D A ((ol G oa (ov) :: xL G xx pg ik mx co pa cv ca cb ar nx w h pts cnt most rch M C P cc L V (Fof cs)) ++ clAll G cs) := hD
  have hl := lv_entry ([.ref xx, .int (zI (k)), .int (zI (i)), .ref oa]) (n := 5) (Nat.le_of_ble_eq_true rfl)
  rw [lg_entry_eq]
  generalize (lg_sl ([.ref xx, .int (zI (k)), .int (zI (i)), .ref oa]) ++ List.replicate (5 - (lg_sl ([.ref xx, .int (zI (k)), .int (zI (i)), .ref oa])).length) Slot.unset).toArray = ls at hl ⊢
  have hl : lv_has ls 5 [(0, .ref xx), (1, .int (zI (k))), (2, .int (zI (i))), (3, .ref oa)] := hl
  obtain ⟨hw, hh, hpts, hcnt, hmost, hrch, hM, hC, hB⟩ := id hp
  have hpt := pgOK_pts hp
  obtain ⟨hcc, hL0, hLe, hLs, hLb, hVb⟩ := id hvv
  have hPx : zP G (xL G xx pg ik mx co pa cv ca cb ar nx w h pts cnt most rch M C P cc L V (Fof cs)) s.heap := (zP_left hP).sub [1, 2, 3, 4, 5, 6, 7, 8, 9, 10] rfl
  have hDx : va_D (fun _ => True) (xL G xx pg ik mx co pa cv ca cb ar nx w h pts cnt most rch M C P cc L V (Fof cs)) := (zD_left hD0).sub [1, 2, 3, 4, 5, 6, 7, 8, 9, 10] (by decide) rfl
  have hsubx : ∀ q, va_A (xL G xx pg ik mx co pa cv ca cb ar nx w h pts cnt most rch M C P cc L V (Fof cs)) s.heap.size q → A q := va_free (zD_left hD) hS hA [1, 2, 3, 4, 5, 6, 7, 8, 9, 10] rfl
  refine lv_aload_n hx hb dL_packed_0 rfl (lv_at hl 3 rfl) ?_
  refine z_iconst hx hb dL_packed_1 ?_
  refine lv_aload_n hx hb dL_packed_2 rfl (lv_at hl 0 rfl) ?_
  refine lv_iload_n hx hb dL_packed_3 rfl (lv_at hl 1 rfl) ?_
  refine lv_iload_n hx hb dL_packed_4 rfl (lv_at hl 2 rfl) ?_
  refine z_hi (G := G) (q0 := 0) (As := [.int (zI (k)), .int (zI (i))]) (rest := [.int (zI (0)), .ref oa]) hx hb hml hown hT hK hX (c_X4_packed l hst G xx pg ik mx co pa cv ca cb ar nx w h pts cnt most rch M C P cc L V (Fof cs) k i hp hvv hnx (by omega) (by omega)) kc_L_64 ⟨Nat.le_of_ble_eq_true rfl, Nat.le_of_ble_eq_true rfl⟩ ⟨Nat.le_of_ble_eq_true rfl, Nat.le_of_ble_eq_true rfl⟩ hPx hDx hsubx rfl rfl rfl rfl hl.1 rfl (Nat.le_of_ble_eq_true rfl) dL_packed_5 (fun E9 ce9 q9 H locs hE hk9 hS hce hcv hcl => ?_) (fun u9 H locs hok9 hk9 hP9 hD9 hS => ?_)
  · skip
    have hP : zP G ((ol G oa (ov) :: xL G xx pg ik mx co pa cv ca cb ar nx w h pts cnt most rch M C P cc L V (Fof cs)) ++ clAll G cs) H := va_P.kept hP (fun k9 q8 hq8 => hk9 _ (hP k9 q8 hq8).lt)
    obtain ⟨rfl, hcd⟩ := hE
    refine tc_catch (name := "java/lang/ArrayIndexOutOfBoundsException") hown [] ⟨0, 10, 13, 21⟩ [] (htab.trans rfl) (fun z hz => nomatch hz) rfl (by decide) (hT _ (mT 277 (by decide +kernel) rfl)) (va_Nw.use (w := Cond.castable "java/lang/ArrayIndexOutOfBoundsException" "java/lang/ArrayIndexOutOfBoundsException") (ng_on _ (by decide +kernel)) (hX.2.2.2 _ (by decide +kernel))) hce hcv hcl ?_
    refine W.eq (g2 := F0 m 13 ls [.ref q9]) rfl ?_
    refine lv_astore (lv' := [(4, .ref q9), (0, .ref xx), (1, .int (zI (k))), (2, .int (zI (i))), (3, .ref oa)]) hx hb dL_packed_13 hl (by decide) rfl (fun ls hl => ?_)
    refine z_iconst hx hb dL_packed_15 ?_
    refine W.widen (k := 2) (n := 12) (Nat.le_of_ble_eq_true rfl) (Nat.le_of_ble_eq_true rfl) ?_
    exact z_wri () hx hb hr hlocks hK (by rw [if_neg (by rw [hcd]; decide)]; exact hP) (by rw [if_neg (by rw [hcd]; decide)]; exact hD) hS (trivial) (hcd.symm) dL_packed_16
  · skip
    have hcd : (cPac k i cnt (2 * cntB (stR P pts w k) pts.toNat)) = 0 := hok9
    obtain ⟨hP, hD⟩ := va_joinQ (X := ol G oa ov :: xL G xx pg ik mx co pa cv ca cb ar nx w h pts cnt most rch M C P cc L V (Fof cs)) (pl := clAll G cs) (wr := [ol G oa ov]) hP hD [1, 2, 3, 4, 5, 6, 7, 8, 9, 10] [0] rfl rfl rfl (by decide) hk9 hsubx hP9 hD9
    have hP : zP G ((ol G oa (ov) :: xL G xx pg ik mx co pa cv ca cb ar nx w h pts cnt most rch M C P cc L V (Fof cs)) ++ clAll G cs) H := hP
    have hD : va_D A ((ol G oa (ov) :: xL G xx pg ik mx co pa cv ca cb ar nx w h pts cnt most rch M C P cc L V (Fof cs)) ++ clAll G cs) := hD
    refine z_i2lw hx hb dL_packed_8 ?_
    refine z_last (ws' := (ol G oa ((zI ((if i = -1 then 2 * cntB (stR P pts w k) pts.toNat else (if i % 2 = 0 then endV (stR P pts w k) (srF (stR P pts w k) (i / 2) pts.toNat) pts - (srF (stR P pts w k) (i / 2) pts.toNat) else P (k * pts + (srF (stR P pts w k) (i / 2) pts.toNat)))))).toInt) :: xL G xx pg ik mx co pa cv ca cb ar nx w h pts cnt most rch M C P cc L V (Fof cs)) ++ clAll G cs) hx hb hK hP hD hS 0 rfl dL_packed_9 rfl (fun H locs hP hD hS => ?_)
    refine z_goto (tgt := 17) hx hb dL_packed_10 (by decide) ?_
    refine z_iconst hx hb dL_packed_17 ?_
    refine W.widen (k := 2) (n := 12) (Nat.le_of_ble_eq_true rfl) (Nat.le_of_ble_eq_true rfl) ?_
    exact z_wri () hx hb hr hlocks hK (by rw [if_pos hcd]; exact hP) (by rw [if_pos hcd]; exact hD) hS (trivial) (hcd.symm) dL_packed_18
