def cNew (ce ra : Nat) (a b : Int) (S : Int → Int) : cT := (ce, ra, (a * a + b * b).toNat, (cdR a b 11), ((a * a + b * b) / (cdR a b 11)), (fiR a b (cdR a b 11) 25 % ((a * a + b * b) / (cdR a b 11))), ZS (fun _ => 0) 0 ((((a * a + b * b).toNat : Nat)) : Int) (rkF S ((((a * a + b * b).toNat : Nat)) : Int)))
theorem Fof_app {cs : List cT} {nx : Int} (hn : nx = (cs.length : Int)) (c : cT) : Fof (cs ++ [c]) = va_up (Fof cs) nx.toNat (some c.1) := by
  funext k
  have hl : nx.toNat = cs.length := by omega
  unfold Fof va_up
  by_cases e : k = nx.toNat
  · rw [if_pos e, e, hl, List.getElem?_append_right (Nat.le_refl _), Nat.sub_self]; rfl
  · rw [if_neg e]
    by_cases q : k < cs.length
    · rw [List.getElem?_append_left q]
    · have e1 : (cs ++ [c])[k]? = none := List.getElem?_eq_none (by rw [List.length_append]; show cs.length + 1 ≤ k; omega)
      have e2 : cs[k]? = none := List.getElem?_eq_none (by omega)
      show ((cs ++ [c])[k]?).map _ = (cs[k]?).map _
      rw [e1, e2]
theorem clAll_new (G : zG) (cs : List cT) (c : cT) : clAll G (cs ++ [c]) = clAll G cs ++ clC G c := by
  rw [clAll_app]
  show clAll G cs ++ (clC G c ++ []) = _
  rw [List.append_nil]
abbrev zPwO (G : zG) (av : List Value) (ws : va_W) (sz : Nat) : Array Value → State → Prop := va_Pc av (fun U => U.heap.size = sz ∧ zP G ws U.heap ∧ zK G U ∧ va_D (fun _ => True) ws ∧ va_AO "SeparateScreens$Cell" U)
theorem zPwO_blind (G : zG) (av : List Value) (ws : va_W) (sz : Nat) : FrameBlind (zPwO G av ws sz) := fun a U g mk q => by
  obtain ⟨q0, q1, qP, qK, qD, qO⟩ := q
  exact ⟨q0, q1, qP, va_K.moved (u := U) (U := U.calling g mk a) (Vm.Alike.refl U.vm) qK, qD, va_AO.moved (u := U) (U := U.calling g mk a) (Vm.Alike.refl U.vm) qO⟩
abbrev zWvO (l : Launch) (y : MethodName) (bytes : ByteArray) (maxL : Nat) (rm : Room) (G : zG) (av : List Value) (ws : va_W) {S : Type} (ok : S → Prop) (ws2 : S → va_W) : Prop :=
  ∀ sz : Nat, Met l y (Cond.code y bytes maxL none :: TB) rm (zPwO G av ws sz) (va_Qv (fun u => ok u) (zB G (va_A ws sz) ws2) (va_A ws sz)) rm.cells rm.slots (va_A ws sz)
section ZY
variable {p : Program} {l : Launch} {e : Env} {R : Room} {s : State} {m : MethodId} {args : Array Value} {below : List Frame} {meth : Method} {c : Code} {H : Heap} {locs : List Loc} {cells slots : Nat} {Q : State → Prop} {cc : ByteArray} {pc nL : Nat} {ls : Array Slot} {rest st0 : List Value} {G : zG} {A : Nat → Prop} {H0 : Heap} {ws : va_W}
theorem z_astq (hx : p.tables.exec = Jvm.exec) (hb : c.code = cc) (hK : zK G s) (hP : zP G ws H) (hD : va_D A ws) (hS : va_S A H0 H locs) (q0 qk : Nat) {a n v : Nat} {F : Nat → Option Nat} {vs : List Value} (he : ws[q0]? = some (aq G a n F)) (hv : ws[qk]? = some (v, .inr (1, vs))) {i : Int} (hi : 0 ≤ i ∧ i < n ∧ i ≤ 2147483647) (hd : decode cc pc = .ok (.aastore, 1)) {ws' : va_W} (hw : ws.set q0 (aq G a n (va_up F i.toNat (some v))) = ws')
    (k : ∀ (H : Heap) (locs : List Loc), zP G ws' H → va_D A ws' → va_S A H0 H locs → W p l e R s m args below meth c H locs cells slots Q (F0 m (pc + 1) ls rest)) : W p l e R s m args below meth c H locs cells slots Q (F0 m pc ls (.ref v :: .int (zI i) :: .ref a :: rest)) := by
  have e1 : (zI i).toNatClampNeg = i.toNat := zI_cl ⟨hi.1, hi.2.2⟩
  refine va_astq hx hb hK hP hD hS q0 1 qk 1 he rfl hv rfl (zI_in ⟨hi.1, hi.2.1⟩ hi.2.2) hd (fun H1 l1 p1 d1 s1 => k H1 l1 ?_ ?_ s1)
  · rw [e1] at p1; rw [← hw]; exact p1
  · rw [e1] at d1; rw [← hw]; exact d1
theorem z_newq (hx : p.tables.exec = Jvm.exec) (hb : c.code = cc) (hown : s.vm.findClass RX4 = some m.cls) (hT : ∀ w ∈ TB, w.before args s = true) (hAO : va_AO "SeparateScreens$Cell" s) (hK : zK G s) (hP : zP G ws H) (hD : va_D A ws) (hS : va_S A H0 H locs) (hA : ∀ q, H0.size ≤ q → A q) {n : Int} {N : Nat} (hn : n = (N : Int) ∧ N ≤ 100000) (hcells : cells + 1 ≤ R.cells) (hslots : slots + N ≤ R.slots) (hd : decode cc pc = .ok (.anewarray 34, 3))
    (k : ∀ (q : Nat) (H : Heap), zP G (ws ++ [aq G q N (fun _ => none)]) H → va_D A (ws ++ [aq G q N (fun _ => none)]) → va_S A H0 H locs → W p l e R s m args below meth c H locs (cells + 1) (slots + N) Q (F0 m (pc + 3) ls (.ref q :: rest))) : W p l e R s m args below meth c H locs cells slots Q (F0 m pc ls (.int (zI n) :: rest)) := by
  refine va_newq (N' := N) (n := zI n) (C := "SeparateScreens$Cell") hx hb hown (hT _ (mT 129 (by decide +kernel) rfl)) hAO hK hP hD hS hA (by rw [← zI_0, zI_lt (by omega) (by omega)]; omega) (by rw [zI_cl (by omega)]; omega) (by omega) hcells hslots hd (fun q cA H1 hK1 hP1 hD1 hS1 => ?_)
  obtain ⟨_, _, _, _, _, f1⟩ := (hK1.2 3 (cA, .object "SeparateScreens$Cell") rfl).2
  obtain ⟨_, _, _, _, _, f2⟩ := (hK.2 1 (G.2.2.1, .object "SeparateScreens$Cell") rfl).2
  have e : cA = G.2.2.1 := Option.some.inj (f1.symm.trans f2)
  subst e
  exact k q H1 hP1 hD1 hS1
end ZY

set_option maxHeartbeats 4000000 in
set_option maxRecDepth 100000 in
theorem c_X4_cell (l : Launch) (hst : l.stackTraces = false) (G : zG) (xx pg ik mx co pa cv ca cb ar : Nat) (nx w h pts cnt most rch : Int) (M C P : Int → Int) (cc : Int) (L V : Int → Int) (cs : List cT) (a b : Int) (hp : pgOK w h pts cnt most rch M C P) (hvv : cvOK cc L V) (hnx : 0 ≤ nx ∧ nx ≤ 6) (hcs : csOK cs) (hnl : nx = (cs.length : Int)) (ha : -2147483648 ≤ a ∧ a ≤ 2147483647) (hb : -2147483648 ≤ b ∧ b ≤ 2147483647) : zXi l yX4_cell cX4_cell 3 (some .int) { frames := 6, cells := 4, slots := 894, locals := 91 } G [.ref xx, .int (zI (a)), .int (zI (b))] ((xL G xx pg ik mx co pa cv ca cb ar nx w h pts cnt most rch M C P cc L V (Fof cs)) ++ clAll G cs) (S := Nat × Nat × (Int → Int)) (fun u => nx) (fun u => cCel a b nx = 0 ∧ isM 288 ((((a * a + b * b).toNat : Nat)) : Int) (nmV (cdR a b 11) ((a * a + b * b) / (cdR a b 11)) (fiR a b (cdR a b 11) 25 % ((a * a + b * b) / (cdR a b 11)))) (full 12) u.2.2) (fun u => xL G xx pg ik mx co pa cv ca cb ar (nx + 1) w h pts cnt most rch M C P cc L V (Fof (cs ++ [cNew u.1 u.2.1 a b u.2.2])) ++ clAll G (cs ++ [cNew u.1 u.2.1 a b u.2.2])) (fun E => (E = "java/lang/IllegalArgumentException" ∧ cCel a b nx = 1) ∨ (E = "java/lang/ArithmeticException" ∧ cCel a b nx = 2) ∨ (E = "java/lang/UnsupportedOperationException" ∧ cCel a b nx = 3)) := by
  intro sz
  refine vx_ofW (cc := cX4_cell) (maxL := 3) (ret := (some .int)) (by decide) rfl ?_
  intro p e s m args below meth c s₁ B hml htab hv
  obtain ⟨rfl, hsz, hP, hK, hD0, hX⟩ := hv
  have hx := B.exec
  have hb := B.bytes
  have hr := B.returns
  have hT : ∀ w ∈ TB, w.before _ s = true := fun w h => atoms_spec (ws := Cond.code yX4_cell cX4_cell 3 (some .int) :: TB) B.pre w (List.mem_cons_of_mem _ h)
  have hown : s.vm.findClass RX4 = some m.cls := findClass_of_methodNamed B.named
  have hlocks := B.notSynchronized
  subst hsz
  have hD := hD0.self (sz := s.heap.size)
  generalize hAe : va_A ((xL G xx pg ik mx co pa cv ca cb ar nx w h pts cnt most rch M C P cc L V (Fof cs)) ++ clAll G cs) s.heap.size = A at hD hX ⊢
  have hA : ∀ q : Nat, s.heap.size ≤ q → A q := fun q h => by rw [← hAe]; exact Or.inr h
  have hS : va_S A s.heap s.heap [] := va_S.rf
  have hsub : ∀ q, va_A ((xL G xx pg ik mx co pa cv ca cb ar nx w h pts cnt most rch M C P cc L V (Fof cs)) ++ clAll G cs) s.heap.size q → A q := fun q h => by rw [← hAe]; exact h
  have hP : zP G ((xL G xx pg ik mx co pa cv ca cb ar nx w h pts cnt most rch M C P cc L V (Fof cs)) ++ clAll G cs) s.heap := hP
  have hD : va_D A ((xL G xx pg ik mx co pa cv ca cb ar nx w h pts cnt most rch M C P cc L V (Fof cs)) ++ clAll G cs) := hD
  have hl := lv_entry ([.ref xx, .int (zI (a)), .int (zI (b))]) (n := 3) (Nat.le_of_ble_eq_true rfl)
  rw [lg_entry_eq]
  generalize (lg_sl ([.ref xx, .int (zI (a)), .int (zI (b))]) ++ List.replicate (3 - (lg_sl ([.ref xx, .int (zI (a)), .int (zI (b))])).length) Slot.unset).toArray = ls at hl ⊢
  have hl : lv_has ls 3 [(0, .ref xx), (1, .int (zI (a))), (2, .int (zI (b)))] := hl
  obtain ⟨hw, hh, hpts, hcnt, hmost, hrch, hM, hC, hB⟩ := id hp
  have hpt := pgOK_pts hp
  obtain ⟨hcc, hL0, hLe, hLs, hLb, hVb⟩ := id hvv
  refine lv_iload_n hx hb dX4_cell_0 rfl (lv_at hl 1 rfl) ?_
  refine z_if_lt (tgt := 22) hx hb dX4_cell_1 (by decide) (by omega) (fun h1 => ?_) (fun h1 => ?_)
  · skip
    exact z_throw (text := "a cell is of 0 to 12 and -12 to 12") hx hb hst hown hT hX kt_IAE (by decide +kernel) hml hl.1 htab hlocks dX4_cell_22 dX4_cell_25 dX4_cell_26 dX4_cell_28 dX4_cell_31 (Nat.le_of_ble_eq_true rfl) (Nat.le_of_ble_eq_true rfl) ⟨Nat.le_of_ble_eq_true rfl, Nat.le_of_ble_eq_true rfl⟩ (Nat.le_of_ble_eq_true rfl) (Nat.le_of_ble_eq_true rfl) (Or.inl ⟨rfl, if_pos (by omega)⟩)
  · skip
    refine lv_iload_n hx hb dX4_cell_4 rfl (lv_at hl 1 rfl) ?_
    refine z_bipush hx hb dX4_cell_5 (by decide +kernel) ?_
    refine z_icmp_gt (tgt := 22) hx hb dX4_cell_7 (by decide) (by omega) (by omega) (fun h7 => ?_) (fun h7 => ?_)
    · skip
      exact z_throw (text := "a cell is of 0 to 12 and -12 to 12") hx hb hst hown hT hX kt_IAE (by decide +kernel) hml hl.1 htab hlocks dX4_cell_22 dX4_cell_25 dX4_cell_26 dX4_cell_28 dX4_cell_31 (Nat.le_of_ble_eq_true rfl) (Nat.le_of_ble_eq_true rfl) ⟨Nat.le_of_ble_eq_true rfl, Nat.le_of_ble_eq_true rfl⟩ (Nat.le_of_ble_eq_true rfl) (Nat.le_of_ble_eq_true rfl) (Or.inl ⟨rfl, if_pos (by omega)⟩)
    · skip
      refine lv_iload_n hx hb dX4_cell_10 rfl (lv_at hl 2 rfl) ?_
      refine z_bipush hx hb dX4_cell_11 (by decide +kernel) ?_
      refine z_icmp_lt (tgt := 22) hx hb dX4_cell_13 (by decide) (by omega) (by omega) (fun h13 => ?_) (fun h13 => ?_)
      · skip
        exact z_throw (text := "a cell is of 0 to 12 and -12 to 12") hx hb hst hown hT hX kt_IAE (by decide +kernel) hml hl.1 htab hlocks dX4_cell_22 dX4_cell_25 dX4_cell_26 dX4_cell_28 dX4_cell_31 (Nat.le_of_ble_eq_true rfl) (Nat.le_of_ble_eq_true rfl) ⟨Nat.le_of_ble_eq_true rfl, Nat.le_of_ble_eq_true rfl⟩ (Nat.le_of_ble_eq_true rfl) (Nat.le_of_ble_eq_true rfl) (Or.inl ⟨rfl, if_pos (by omega)⟩)
      · skip
        refine lv_iload_n hx hb dX4_cell_16 rfl (lv_at hl 2 rfl) ?_
        refine z_bipush hx hb dX4_cell_17 (by decide +kernel) ?_
        refine z_icmp_le (tgt := 32) hx hb dX4_cell_19 (by decide) (by omega) (by omega) (fun h19 => ?_) (fun h19 => ?_)
        · skip
          refine lv_iload_n hx hb dX4_cell_32 rfl (lv_at hl 1 rfl) ?_
          refine z_if_ne (tgt := 50) hx hb dX4_cell_33 (by decide) (by omega) (fun h33 => ?_) (fun h33 => ?_)
          · skip
            refine lv_aload_n hx hb dX4_cell_50 rfl (lv_at hl 0 rfl) ?_
            refine gf_X4_40 hx hb hT hown hK hP 0 rfl rfl dX4_cell_51 ?_
            refine z_bipush hx hb dX4_cell_54 (by decide +kernel) ?_
            refine z_icmp_lt (tgt := 69) hx hb dX4_cell_56 (by decide) (by omega) (by omega) (fun h56 => ?_) (fun h56 => ?_)
            · skip
              refine lv_aload_n hx hb dX4_cell_69 rfl (lv_at hl 0 rfl) ?_
              refine gf_X4_36 hx hb hT hown hK hP 0 rfl rfl dX4_cell_70 ?_
              refine lv_aload_n hx hb dX4_cell_73 rfl (lv_at hl 0 rfl) ?_
              refine gf_X4_40 hx hb hT hown hK hP 0 rfl rfl dX4_cell_74 ?_
              refine va_new (D := G.1) (ci := 1) (fs := [.int (zI (0)), .int (zI (0)), .int (zI (0)), .null]) (C := RX0) (T := TX0) (N := 4) hx hb hT inT_X0 tyX0 tyX0_ok hown (hT _ (mT 129 (by decide +kernel) rfl)) (hT _ (mT 433 (by decide +kernel) rfl)) (hT _ (mT 43 (by decide +kernel) rfl)) hK hP hD hS hA rfl (fun j hj => by rcases (show j = 0 ∨ j = 1 ∨ j = 2 ∨ j = 3 by omega) with rfl | rfl | rfl | rfl <;> rfl) (Nat.le_of_ble_eq_true rfl) (Nat.le_of_ble_eq_true rfl) dX4_cell_77 (fun ce H hP hD hS => ?_)
              have hP := va_P.swap hP
              have hD := va_D.swap hD
              have hP : zP G (((xL G xx pg ik mx co pa cv ca cb ar nx w h pts cnt most rch M C P cc L V (Fof cs)) ++ [(ce, .inr (1, [.int (zI (0)), .int (zI (0)), .int (zI (0)), .null]))]) ++ clAll G cs) H := hP
              have hD : va_D A (((xL G xx pg ik mx co pa cv ca cb ar nx w h pts cnt most rch M C P cc L V (Fof cs)) ++ [(ce, .inr (1, [.int (zI (0)), .int (zI (0)), .int (zI (0)), .null]))]) ++ clAll G cs) := hD
              refine W.widen (k := 1) (n := 4) (Nat.le_of_ble_eq_true rfl) (Nat.le_of_ble_eq_true rfl) ?_
              refine lv_dup hx hb dX4_cell_80 rfl ?_
              refine lv_iload_n hx hb dX4_cell_81 rfl (lv_at hl 1 rfl) ?_
              refine lv_iload_n hx hb dX4_cell_82 rfl (lv_at hl 2 rfl) ?_
              refine z_wI (G := G) (X := (xL G xx pg ik mx co pa cv ca cb ar nx w h pts cnt most rch M C P cc L V (Fof cs)) ++ [(ce, .inr (1, [.int (zI (0)), .int (zI (0)), .int (zI (0)), .null]))]) (pl := (clAll G cs)) (As := [.int (zI (a)), .int (zI (b))]) (rest := [.ref ce, .int (zI (nx)), .ref ar]) hx hb hml hown hT hK (c_X0_init l G ce (a) (b) (by omega) (by omega) (by omega)) kc_X4_146 ⟨Nat.le_of_ble_eq_true rfl, Nat.le_of_ble_eq_true rfl⟩ ⟨Nat.le_of_ble_eq_true rfl, Nat.le_of_ble_eq_true rfl⟩ hP hD hS hA [10] [0, 1, 2, 3, 4, 5, 6, 7, 8, 9] (wr := [(xx, .inr (5, [.ref pg, .ref cv, .ref ar, .int (zI (nx))])), (pg, .inr (4, [.int (zI (w)), .int (zI (h)), .int (zI (pts)), .ref ik, .ref pa, .int (zI (most)), .int (zI (rch))])), (ik, .inr (3, [.ref mx, .ref co, .int (zI (cnt))])), ia G pa ((8 * pts).toNat) P, ia G mx 32 M, ia G co 8 C, (cv, .inr (2, [.ref ca, .ref cb, .int (zI (cc))])), ia G ca 12 L, ia G cb 12 V, aq G ar 6 (Fof cs)]) rfl rfl rfl rfl (by decide) rfl hl.1 rfl (Nat.le_of_ble_eq_true rfl) dX4_cell_83 (fun u9 H locs hok9 hP hD hS => ?_)
              obtain ⟨ra, S⟩ := u9
              have hP : zP G (((xL G xx pg ik mx co pa cv ca cb ar nx w h pts cnt most rch M C P cc L V (Fof cs)) ++ [(ce, .inr (1, [.int (zI ((cdR a b 11))), .int (zI (((a * a + b * b) / (cdR a b 11)))), .int (zI ((fiR a b (cdR a b 11) 25 % ((a * a + b * b) / (cdR a b 11))))), .ref ra])), ia G ra ((a * a + b * b).toNat) (ZS (fun _ => 0) 0 ((((a * a + b * b).toNat : Nat)) : Int) (rkF S ((((a * a + b * b).toNat : Nat)) : Int)))]) ++ clAll G cs) H := hP
              have hD : va_D A (((xL G xx pg ik mx co pa cv ca cb ar nx w h pts cnt most rch M C P cc L V (Fof cs)) ++ [(ce, .inr (1, [.int (zI ((cdR a b 11))), .int (zI (((a * a + b * b) / (cdR a b 11)))), .int (zI ((fiR a b (cdR a b 11) 25 % ((a * a + b * b) / (cdR a b 11))))), .ref ra])), ia G ra ((a * a + b * b).toNat) (ZS (fun _ => 0) 0 ((((a * a + b * b).toNat : Nat)) : Int) (rkF S ((((a * a + b * b).toNat : Nat)) : Int)))]) ++ clAll G cs) := hD
              refine W.widen (k := 4) (n := 894) (Nat.le_of_ble_eq_true rfl) (Nat.le_of_ble_eq_true rfl) ?_
              have hokS := hok9
              refine z_astq (ws' := ((xL G xx pg ik mx co pa cv ca cb ar nx w h pts cnt most rch M C P cc L V (va_up (Fof cs) nx.toNat (some ce))) ++ [(ce, .inr (1, [.int (zI ((cdR a b 11))), .int (zI (((a * a + b * b) / (cdR a b 11)))), .int (zI ((fiR a b (cdR a b 11) 25 % ((a * a + b * b) / (cdR a b 11))))), .ref ra])), ia G ra ((a * a + b * b).toNat) (ZS (fun _ => 0) 0 ((((a * a + b * b).toNat : Nat)) : Int) (rkF S ((((a * a + b * b).toNat : Nat)) : Int)))]) ++ clAll G cs) hx hb hK hP hD hS 9 10 rfl rfl (⟨by omega, by omega, by omega⟩) dX4_cell_86 rfl (fun H locs hP hD hS => ?_)
              refine lv_aload_n hx hb dX4_cell_87 rfl (lv_at hl 0 rfl) ?_
              refine lv_dup hx hb dX4_cell_88 rfl ?_
              refine gf_X4_40 hx hb hT hown hK hP 0 rfl rfl dX4_cell_89 ?_
              refine z_iconst hx hb dX4_cell_92 ?_
              refine z_iadd hx hb dX4_cell_93 ?_
              refine pf_X4_40 (ws' := ((xL G xx pg ik mx co pa cv ca cb ar (nx + 1) w h pts cnt most rch M C P cc L V (va_up (Fof cs) nx.toNat (some ce))) ++ [(ce, .inr (1, [.int (zI ((cdR a b 11))), .int (zI (((a * a + b * b) / (cdR a b 11)))), .int (zI ((fiR a b (cdR a b 11) 25 % ((a * a + b * b) / (cdR a b 11))))), .ref ra])), ia G ra ((a * a + b * b).toNat) (ZS (fun _ => 0) 0 ((((a * a + b * b).toNat : Nat)) : Int) (rkF S ((((a * a + b * b).toNat : Nat)) : Int)))]) ++ clAll G cs) hx hb hT hown hK hP hD hS 0 rfl (Nat.le_of_ble_eq_true rfl) rfl rfl rfl dX4_cell_94 (fun H locs hP hD hS => ?_)
              refine lv_aload_n hx hb dX4_cell_97 rfl (lv_at hl 0 rfl) ?_
              refine gf_X4_40 hx hb hT hown hK hP 0 rfl rfl dX4_cell_98 ?_
              refine z_iconst hx hb dX4_cell_101 ?_
              refine z_isub hx hb dX4_cell_102 ?_
              refine vx_ret ?_
              have eF : Fof (cs ++ [cNew ce ra a b S]) = va_up (Fof cs) nx.toNat (some ce) := Fof_app hnl _
              have eP := clAll_new G cs (cNew ce ra a b S)
              exact z_wri (ce, ra, S) hx hb hr hlocks hK (by show zP G (xL G xx pg ik mx co pa cv ca cb ar (nx + 1) w h pts cnt most rch M C P cc L V (Fof (cs ++ [cNew ce ra a b S])) ++ clAll G (cs ++ [cNew ce ra a b S])) _; rw [eF, eP, ← List.append_assoc]; exact va_P.swap hP) (by show va_D A (xL G xx pg ik mx co pa cv ca cb ar (nx + 1) w h pts cnt most rch M C P cc L V (Fof (cs ++ [cNew ce ra a b S])) ++ clAll G (cs ++ [cNew ce ra a b S])); rw [eF, eP, ← List.append_assoc]; exact va_D.swap hD) hS (⟨by unfold cCel; rw [if_neg (by omega), if_neg (by omega), if_neg (by omega)], hokS⟩) (by show nx + 1 - 1 = nx; omega) dX4_cell_103
            · skip
              exact z_throw (text := "there are 6 cells") hx hb hst hown hT hX kt_UOE (by decide +kernel) hml hl.1 htab hlocks dX4_cell_59 dX4_cell_62 dX4_cell_63 dX4_cell_65 dX4_cell_68 (Nat.le_of_ble_eq_true rfl) (Nat.le_of_ble_eq_true rfl) ⟨Nat.le_of_ble_eq_true rfl, Nat.le_of_ble_eq_true rfl⟩ (Nat.le_of_ble_eq_true rfl) (Nat.le_of_ble_eq_true rfl) (Or.inr (Or.inr ⟨rfl, by unfold cCel; rw [if_neg (by omega), if_neg (by omega), if_pos (by omega)]⟩))
          · skip
            refine lv_iload_n hx hb dX4_cell_36 rfl (lv_at hl 2 rfl) ?_
            refine z_if_ne (tgt := 50) hx hb dX4_cell_37 (by decide) (by omega) (fun h37 => ?_) (fun h37 => ?_)
            · skip
              refine lv_aload_n hx hb dX4_cell_50 rfl (lv_at hl 0 rfl) ?_
              refine gf_X4_40 hx hb hT hown hK hP 0 rfl rfl dX4_cell_51 ?_
              refine z_bipush hx hb dX4_cell_54 (by decide +kernel) ?_
              refine z_icmp_lt (tgt := 69) hx hb dX4_cell_56 (by decide) (by omega) (by omega) (fun h56 => ?_) (fun h56 => ?_)
              · skip
                refine lv_aload_n hx hb dX4_cell_69 rfl (lv_at hl 0 rfl) ?_
                refine gf_X4_36 hx hb hT hown hK hP 0 rfl rfl dX4_cell_70 ?_
                refine lv_aload_n hx hb dX4_cell_73 rfl (lv_at hl 0 rfl) ?_
                refine gf_X4_40 hx hb hT hown hK hP 0 rfl rfl dX4_cell_74 ?_
                refine va_new (D := G.1) (ci := 1) (fs := [.int (zI (0)), .int (zI (0)), .int (zI (0)), .null]) (C := RX0) (T := TX0) (N := 4) hx hb hT inT_X0 tyX0 tyX0_ok hown (hT _ (mT 129 (by decide +kernel) rfl)) (hT _ (mT 433 (by decide +kernel) rfl)) (hT _ (mT 43 (by decide +kernel) rfl)) hK hP hD hS hA rfl (fun j hj => by rcases (show j = 0 ∨ j = 1 ∨ j = 2 ∨ j = 3 by omega) with rfl | rfl | rfl | rfl <;> rfl) (Nat.le_of_ble_eq_true rfl) (Nat.le_of_ble_eq_true rfl) dX4_cell_77 (fun ce H hP hD hS => ?_)
                have hP := va_P.swap hP
                have hD := va_D.swap hD
                have hP : zP G (((xL G xx pg ik mx co pa cv ca cb ar nx w h pts cnt most rch M C P cc L V (Fof cs)) ++ [(ce, .inr (1, [.int (zI (0)), .int (zI (0)), .int (zI (0)), .null]))]) ++ clAll G cs) H := hP
                have hD : va_D A (((xL G xx pg ik mx co pa cv ca cb ar nx w h pts cnt most rch M C P cc L V (Fof cs)) ++ [(ce, .inr (1, [.int (zI (0)), .int (zI (0)), .int (zI (0)), .null]))]) ++ clAll G cs) := hD
                refine W.widen (k := 1) (n := 4) (Nat.le_of_ble_eq_true rfl) (Nat.le_of_ble_eq_true rfl) ?_
                refine lv_dup hx hb dX4_cell_80 rfl ?_
                refine lv_iload_n hx hb dX4_cell_81 rfl (lv_at hl 1 rfl) ?_
                refine lv_iload_n hx hb dX4_cell_82 rfl (lv_at hl 2 rfl) ?_
                refine z_wI (G := G) (X := (xL G xx pg ik mx co pa cv ca cb ar nx w h pts cnt most rch M C P cc L V (Fof cs)) ++ [(ce, .inr (1, [.int (zI (0)), .int (zI (0)), .int (zI (0)), .null]))]) (pl := (clAll G cs)) (As := [.int (zI (a)), .int (zI (b))]) (rest := [.ref ce, .int (zI (nx)), .ref ar]) hx hb hml hown hT hK (c_X0_init l G ce (a) (b) (by omega) (by omega) (by omega)) kc_X4_146 ⟨Nat.le_of_ble_eq_true rfl, Nat.le_of_ble_eq_true rfl⟩ ⟨Nat.le_of_ble_eq_true rfl, Nat.le_of_ble_eq_true rfl⟩ hP hD hS hA [10] [0, 1, 2, 3, 4, 5, 6, 7, 8, 9] (wr := [(xx, .inr (5, [.ref pg, .ref cv, .ref ar, .int (zI (nx))])), (pg, .inr (4, [.int (zI (w)), .int (zI (h)), .int (zI (pts)), .ref ik, .ref pa, .int (zI (most)), .int (zI (rch))])), (ik, .inr (3, [.ref mx, .ref co, .int (zI (cnt))])), ia G pa ((8 * pts).toNat) P, ia G mx 32 M, ia G co 8 C, (cv, .inr (2, [.ref ca, .ref cb, .int (zI (cc))])), ia G ca 12 L, ia G cb 12 V, aq G ar 6 (Fof cs)]) rfl rfl rfl rfl (by decide) rfl hl.1 rfl (Nat.le_of_ble_eq_true rfl) dX4_cell_83 (fun u9 H locs hok9 hP hD hS => ?_)
                obtain ⟨ra, S⟩ := u9
                have hP : zP G (((xL G xx pg ik mx co pa cv ca cb ar nx w h pts cnt most rch M C P cc L V (Fof cs)) ++ [(ce, .inr (1, [.int (zI ((cdR a b 11))), .int (zI (((a * a + b * b) / (cdR a b 11)))), .int (zI ((fiR a b (cdR a b 11) 25 % ((a * a + b * b) / (cdR a b 11))))), .ref ra])), ia G ra ((a * a + b * b).toNat) (ZS (fun _ => 0) 0 ((((a * a + b * b).toNat : Nat)) : Int) (rkF S ((((a * a + b * b).toNat : Nat)) : Int)))]) ++ clAll G cs) H := hP
                have hD : va_D A (((xL G xx pg ik mx co pa cv ca cb ar nx w h pts cnt most rch M C P cc L V (Fof cs)) ++ [(ce, .inr (1, [.int (zI ((cdR a b 11))), .int (zI (((a * a + b * b) / (cdR a b 11)))), .int (zI ((fiR a b (cdR a b 11) 25 % ((a * a + b * b) / (cdR a b 11))))), .ref ra])), ia G ra ((a * a + b * b).toNat) (ZS (fun _ => 0) 0 ((((a * a + b * b).toNat : Nat)) : Int) (rkF S ((((a * a + b * b).toNat : Nat)) : Int)))]) ++ clAll G cs) := hD
                refine W.widen (k := 4) (n := 894) (Nat.le_of_ble_eq_true rfl) (Nat.le_of_ble_eq_true rfl) ?_
                have hokS := hok9
                refine z_astq (ws' := ((xL G xx pg ik mx co pa cv ca cb ar nx w h pts cnt most rch M C P cc L V (va_up (Fof cs) nx.toNat (some ce))) ++ [(ce, .inr (1, [.int (zI ((cdR a b 11))), .int (zI (((a * a + b * b) / (cdR a b 11)))), .int (zI ((fiR a b (cdR a b 11) 25 % ((a * a + b * b) / (cdR a b 11))))), .ref ra])), ia G ra ((a * a + b * b).toNat) (ZS (fun _ => 0) 0 ((((a * a + b * b).toNat : Nat)) : Int) (rkF S ((((a * a + b * b).toNat : Nat)) : Int)))]) ++ clAll G cs) hx hb hK hP hD hS 9 10 rfl rfl (⟨by omega, by omega, by omega⟩) dX4_cell_86 rfl (fun H locs hP hD hS => ?_)
                refine lv_aload_n hx hb dX4_cell_87 rfl (lv_at hl 0 rfl) ?_
                refine lv_dup hx hb dX4_cell_88 rfl ?_
                refine gf_X4_40 hx hb hT hown hK hP 0 rfl rfl dX4_cell_89 ?_
                refine z_iconst hx hb dX4_cell_92 ?_
                refine z_iadd hx hb dX4_cell_93 ?_
                refine pf_X4_40 (ws' := ((xL G xx pg ik mx co pa cv ca cb ar (nx + 1) w h pts cnt most rch M C P cc L V (va_up (Fof cs) nx.toNat (some ce))) ++ [(ce, .inr (1, [.int (zI ((cdR a b 11))), .int (zI (((a * a + b * b) / (cdR a b 11)))), .int (zI ((fiR a b (cdR a b 11) 25 % ((a * a + b * b) / (cdR a b 11))))), .ref ra])), ia G ra ((a * a + b * b).toNat) (ZS (fun _ => 0) 0 ((((a * a + b * b).toNat : Nat)) : Int) (rkF S ((((a * a + b * b).toNat : Nat)) : Int)))]) ++ clAll G cs) hx hb hT hown hK hP hD hS 0 rfl (Nat.le_of_ble_eq_true rfl) rfl rfl rfl dX4_cell_94 (fun H locs hP hD hS => ?_)
                refine lv_aload_n hx hb dX4_cell_97 rfl (lv_at hl 0 rfl) ?_
                refine gf_X4_40 hx hb hT hown hK hP 0 rfl rfl dX4_cell_98 ?_
                refine z_iconst hx hb dX4_cell_101 ?_
                refine z_isub hx hb dX4_cell_102 ?_
                refine vx_ret ?_
                have eF : Fof (cs ++ [cNew ce ra a b S]) = va_up (Fof cs) nx.toNat (some ce) := Fof_app hnl _
                have eP := clAll_new G cs (cNew ce ra a b S)
                exact z_wri (ce, ra, S) hx hb hr hlocks hK (by show zP G (xL G xx pg ik mx co pa cv ca cb ar (nx + 1) w h pts cnt most rch M C P cc L V (Fof (cs ++ [cNew ce ra a b S])) ++ clAll G (cs ++ [cNew ce ra a b S])) _; rw [eF, eP, ← List.append_assoc]; exact va_P.swap hP) (by show va_D A (xL G xx pg ik mx co pa cv ca cb ar (nx + 1) w h pts cnt most rch M C P cc L V (Fof (cs ++ [cNew ce ra a b S])) ++ clAll G (cs ++ [cNew ce ra a b S])); rw [eF, eP, ← List.append_assoc]; exact va_D.swap hD) hS (⟨by unfold cCel; rw [if_neg (by omega), if_neg (by omega), if_neg (by omega)], hokS⟩) (by show nx + 1 - 1 = nx; omega) dX4_cell_103
              · skip
                exact z_throw (text := "there are 6 cells") hx hb hst hown hT hX kt_UOE (by decide +kernel) hml hl.1 htab hlocks dX4_cell_59 dX4_cell_62 dX4_cell_63 dX4_cell_65 dX4_cell_68 (Nat.le_of_ble_eq_true rfl) (Nat.le_of_ble_eq_true rfl) ⟨Nat.le_of_ble_eq_true rfl, Nat.le_of_ble_eq_true rfl⟩ (Nat.le_of_ble_eq_true rfl) (Nat.le_of_ble_eq_true rfl) (Or.inr (Or.inr ⟨rfl, by unfold cCel; rw [if_neg (by omega), if_neg (by omega), if_pos (by omega)]⟩))
            · skip
              exact z_throw (text := "a cell of no size") hx hb hst hown hT hX kt_ARI (by decide +kernel) hml hl.1 htab hlocks dX4_cell_40 dX4_cell_43 dX4_cell_44 dX4_cell_46 dX4_cell_49 (Nat.le_of_ble_eq_true rfl) (Nat.le_of_ble_eq_true rfl) ⟨Nat.le_of_ble_eq_true rfl, Nat.le_of_ble_eq_true rfl⟩ (Nat.le_of_ble_eq_true rfl) (Nat.le_of_ble_eq_true rfl) (Or.inr (Or.inl ⟨rfl, by unfold cCel; rw [if_neg (by omega), if_pos (by omega)]⟩))
        · skip
          exact z_throw (text := "a cell is of 0 to 12 and -12 to 12") hx hb hst hown hT hX kt_IAE (by decide +kernel) hml hl.1 htab hlocks dX4_cell_22 dX4_cell_25 dX4_cell_26 dX4_cell_28 dX4_cell_31 (Nat.le_of_ble_eq_true rfl) (Nat.le_of_ble_eq_true rfl) ⟨Nat.le_of_ble_eq_true rfl, Nat.le_of_ble_eq_true rfl⟩ (Nat.le_of_ble_eq_true rfl) (Nat.le_of_ble_eq_true rfl) (Or.inl ⟨rfl, if_pos (by omega)⟩)

set_option maxHeartbeats 4000000 in
set_option maxRecDepth 100000 in
theorem c_X4_init (l : Launch) (G : zG) (xx : Nat) (x1 x2 : Int) (hx1 : -2147483648 ≤ x1 ∧ x1 ≤ 2147483647) (hx2 : -2147483648 ≤ x2 ∧ x2 ≤ 2147483647) : zWvO l yX4_init cX4_init 5 { frames := 3, cells := 9, slots := 1619, locals := 55 } G [.ref xx, .int (zI (x1)), .int (zI (x2))] ([(xx, .inr (5, [.null, .null, .null, .int (zI (0))]))]) (S := Nat × Nat × Nat × Nat × Nat × Nat × Nat × Nat × Nat) (fun u => True) (fun u => xL G xx u.1 u.2.1 u.2.2.1 u.2.2.2.1 u.2.2.2.2.1 u.2.2.2.2.2.1 u.2.2.2.2.2.2.1 u.2.2.2.2.2.2.2.1 u.2.2.2.2.2.2.2.2 0 (max 1 (min 16 x1)) (max 1 (min 12 x2)) ((max 1 (min 16 x1)) * (max 1 (min 12 x2))) 4 2040 1 (mix0 4) (seg0 0 (-1) 8) (fun _ => 0) 2 (zu (fun _ => 0) 1 255) (zu (fun _ => 0) 1 255) (fun _ => none)) := by
  intro sz
  refine Met.ofW (cc := cX4_init) (maxL := 5) (ret := none) (by decide) rfl ?_
  intro p e s m args below meth c s₁ B hml hv
  obtain ⟨rfl, hsz, hP, hK, hD0, hAO⟩ := hv
  have hx := B.exec
  have hb := B.bytes
  have hr := B.returns
  have hT : ∀ w ∈ TB, w.before _ s = true := fun w h => atoms_spec (ws := Cond.code yX4_init cX4_init 5 none :: TB) B.pre w (List.mem_cons_of_mem _ h)
  have hown : s.vm.findClass RX4 = some m.cls := findClass_of_methodNamed B.named
  have hlocks := B.notSynchronized
  have hin : meth.name = "<init>" := (name_of_methodNamed B.named B.method).1
  subst hsz
  have hD := hD0.self (sz := s.heap.size)
  generalize hAe : va_A ([(xx, .inr (5, [.null, .null, .null, .int (zI (0))]))]) s.heap.size = A at hD ⊢
  have hA : ∀ q : Nat, s.heap.size ≤ q → A q := fun q h => by rw [← hAe]; exact Or.inr h
  have hS : va_S A s.heap s.heap [] := va_S.rf
  have hP : zP G ([(xx, .inr (5, [.null, .null, .null, .int (zI (0))]))]) s.heap := hP
  have hD : va_D A ([(xx, .inr (5, [.null, .null, .null, .int (zI (0))]))]) := hD
  have hl := lv_entry ([.ref xx, .int (zI (x1)), .int (zI (x2))]) (n := 5) (Nat.le_of_ble_eq_true rfl)
  rw [lg_entry_eq]
  generalize (lg_sl ([.ref xx, .int (zI (x1)), .int (zI (x2))]) ++ List.replicate (5 - (lg_sl ([.ref xx, .int (zI (x1)), .int (zI (x2))])).length) Slot.unset).toArray = ls at hl ⊢
  have hl : lv_has ls 5 [(0, .ref xx), (1, .int (zI (x1))), (2, .int (zI (x2)))] := hl
  refine lv_aload_n hx hb dX4_init_0 rfl (lv_at hl 0 rfl) ?_
  refine W.objInit hx hb hown (hT _ (mT 49 (by decide +kernel) rfl)) (hT _ (mT 50 (by decide +kernel) rfl)) (hT _ (mT 51 (by decide +kernel) rfl)) rfl (by rw [hml]; exact hl.1) rfl dX4_init_1 (Nat.le_of_ble_eq_true rfl) (Nat.le_of_ble_eq_true rfl) ?_
  refine W.eq (g2 := F0 m 4 ls []) rfl ?_
  refine z_iconst hx hb dX4_init_4 ?_
  refine z_bipush hx hb dX4_init_5 (by decide +kernel) ?_
  refine lv_iload_n hx hb dX4_init_7 rfl (lv_at hl 1 rfl) ?_
  refine z_mmin hx hb hml hl.1 hown hT kc_X4_9 ⟨Nat.le_of_ble_eq_true rfl, Nat.le_of_ble_eq_true rfl⟩ ⟨Nat.le_of_ble_eq_true rfl, Nat.le_of_ble_eq_true rfl⟩ (by omega) (by omega) dX4_init_8 ?_
  refine z_mmax hx hb hml hl.1 hown hT kc_X4_15 ⟨Nat.le_of_ble_eq_true rfl, Nat.le_of_ble_eq_true rfl⟩ ⟨Nat.le_of_ble_eq_true rfl, Nat.le_of_ble_eq_true rfl⟩ (by omega) (by omega) dX4_init_11 ?_
  refine lv_istore_n (lv' := [(3, .int (zI ((max 1 (min 16 x1))))), (0, .ref xx), (1, .int (zI (x1))), (2, .int (zI (x2)))]) hx hb dX4_init_14 rfl hl (by decide) rfl (fun ls hl => ?_)
  refine z_iconst hx hb dX4_init_15 ?_
  refine z_bipush hx hb dX4_init_16 (by decide +kernel) ?_
  refine lv_iload_n hx hb dX4_init_18 rfl (lv_at hl 3 rfl) ?_
  refine z_mmin hx hb hml hl.1 hown hT kc_X4_9 ⟨Nat.le_of_ble_eq_true rfl, Nat.le_of_ble_eq_true rfl⟩ ⟨Nat.le_of_ble_eq_true rfl, Nat.le_of_ble_eq_true rfl⟩ (by omega) (by omega) dX4_init_19 ?_
  refine z_mmax hx hb hml hl.1 hown hT kc_X4_15 ⟨Nat.le_of_ble_eq_true rfl, Nat.le_of_ble_eq_true rfl⟩ ⟨Nat.le_of_ble_eq_true rfl, Nat.le_of_ble_eq_true rfl⟩ (by omega) (by omega) dX4_init_22 ?_
  refine lv_istore (lv' := [(4, .int (zI ((max 1 (min 12 x2))))), (3, .int (zI ((max 1 (min 16 x1))))), (0, .ref xx), (1, .int (zI (x1))), (2, .int (zI (x2)))]) hx hb dX4_init_25 hl (by decide) rfl (fun ls hl => ?_)
  refine lv_aload_n hx hb dX4_init_27 rfl (lv_at hl 2 rfl) ?_
  refine va_new (D := G.1) (ci := 4) (fs := [.int (zI (0)), .int (zI (0)), .int (zI (0)), .null, .null, .int (zI (0)), .int (zI (0))]) (C := RX3) (T := TX3) (N := 7) hx hb hT inT_X3 tyX3 tyX3_ok hown (hT _ (mT 58 (by decide +kernel) rfl)) (hT _ (mT 59 (by decide +kernel) rfl)) (hT _ (mT 31 (by decide +kernel) rfl)) hK hP hD hS hA rfl (fun j hj => by rcases (show j = 0 ∨ j = 1 ∨ j = 2 ∨ j = 3 ∨ j = 4 ∨ j = 5 ∨ j = 6 by omega) with rfl | rfl | rfl | rfl | rfl | rfl | rfl <;> rfl) (Nat.le_of_ble_eq_true rfl) (Nat.le_of_ble_eq_true rfl) dX4_init_28 (fun pg H hP hD hS => ?_)
  have hP : zP G ([(xx, .inr (5, [.null, .null, .null, .int (zI (0))])), (pg, .inr (4, [.int (zI (0)), .int (zI (0)), .int (zI (0)), .null, .null, .int (zI (0)), .int (zI (0))]))]) H := hP
  have hD : va_D A ([(xx, .inr (5, [.null, .null, .null, .int (zI (0))])), (pg, .inr (4, [.int (zI (0)), .int (zI (0)), .int (zI (0)), .null, .null, .int (zI (0)), .int (zI (0))]))]) := hD
  refine W.widen (k := 1) (n := 7) (Nat.le_of_ble_eq_true rfl) (Nat.le_of_ble_eq_true rfl) ?_
  refine lv_dup hx hb dX4_init_31 rfl ?_
  refine lv_iload_n hx hb dX4_init_32 rfl (lv_at hl 1 rfl) ?_
  refine lv_iload hx hb dX4_init_33 (lv_at hl 0 rfl) ?_
  refine z_wI (G := G) (X := [(xx, .inr (5, [.null, .null, .null, .int (zI (0))])), (pg, .inr (4, [.int (zI (0)), .int (zI (0)), .int (zI (0)), .null, .null, .int (zI (0)), .int (zI (0))]))]) (pl := []) (As := [.int (zI ((max 1 (min 16 x1)))), .int (zI ((max 1 (min 12 x2))))]) (rest := [.ref pg, .ref xx]) hx hb hml hown hT hK (c_X3_init l G pg ((max 1 (min 16 x1))) ((max 1 (min 12 x2))) (by omega) (by omega)) kc_X4_20 ⟨Nat.le_of_ble_eq_true rfl, Nat.le_of_ble_eq_true rfl⟩ ⟨Nat.le_of_ble_eq_true rfl, Nat.le_of_ble_eq_true rfl⟩ hP hD hS hA [1] [0] (wr := [(xx, .inr (5, [.null, .null, .null, .int (zI (0))]))]) rfl rfl rfl rfl (by decide) rfl hl.1 rfl (Nat.le_of_ble_eq_true rfl) dX4_init_35 (fun u9 H locs hok9 hP hD hS => ?_)
  obtain ⟨ik, mx, co, pa⟩ := u9
  have hP : zP G ([(xx, .inr (5, [.null, .null, .null, .int (zI (0))])), (pg, .inr (4, [.int (zI ((max 1 (min 16 x1)))), .int (zI ((max 1 (min 12 x2)))), .int (zI (((max 1 (min 16 x1)) * (max 1 (min 12 x2))))), .ref ik, .ref pa, .int (zI (2040)), .int (zI (1))])), (ik, .inr (3, [.ref mx, .ref co, .int (zI (4))])), ia G pa ((8 * ((max 1 (min 16 x1)) * (max 1 (min 12 x2)))).toNat) (fun _ => 0), ia G mx 32 (mix0 4), ia G co 8 (seg0 0 (-1) 8)]) H := hP
  have hD : va_D A ([(xx, .inr (5, [.null, .null, .null, .int (zI (0))])), (pg, .inr (4, [.int (zI ((max 1 (min 16 x1)))), .int (zI ((max 1 (min 12 x2)))), .int (zI (((max 1 (min 16 x1)) * (max 1 (min 12 x2))))), .ref ik, .ref pa, .int (zI (2040)), .int (zI (1))])), (ik, .inr (3, [.ref mx, .ref co, .int (zI (4))])), ia G pa ((8 * ((max 1 (min 16 x1)) * (max 1 (min 12 x2)))).toNat) (fun _ => 0), ia G mx 32 (mix0 4), ia G co 8 (seg0 0 (-1) 8)]) := hD
  refine W.widen (k := 5) (n := 1586) (Nat.le_of_ble_eq_true rfl) (Nat.le_of_ble_eq_true rfl) ?_
  refine pf_X4_23 (ws' := [(xx, .inr (5, [.ref pg, .null, .null, .int (zI (0))])), (pg, .inr (4, [.int (zI ((max 1 (min 16 x1)))), .int (zI ((max 1 (min 12 x2)))), .int (zI (((max 1 (min 16 x1)) * (max 1 (min 12 x2))))), .ref ik, .ref pa, .int (zI (2040)), .int (zI (1))])), (ik, .inr (3, [.ref mx, .ref co, .int (zI (4))])), ia G pa ((8 * ((max 1 (min 16 x1)) * (max 1 (min 12 x2)))).toNat) (fun _ => 0), ia G mx 32 (mix0 4), ia G co 8 (seg0 0 (-1) 8)]) hx hb hT hown hin hK hP hD hS 0 rfl (Nat.le_of_ble_eq_true rfl) rfl rfl rfl dX4_init_38 (fun H locs hP hD hS => ?_)
  refine lv_aload_n hx hb dX4_init_41 rfl (lv_at hl 2 rfl) ?_
  refine va_new (D := G.1) (ci := 2) (fs := [.null, .null, .int (zI (0))]) (C := RX1) (T := TX1) (N := 3) hx hb hT inT_X1 tyX1 tyX1_ok hown (hT _ (mT 113 (by decide +kernel) rfl)) (hT _ (mT 114 (by decide +kernel) rfl)) (hT _ (mT 33 (by decide +kernel) rfl)) hK hP hD hS hA rfl (fun j hj => by rcases (show j = 0 ∨ j = 1 ∨ j = 2 by omega) with rfl | rfl | rfl <;> rfl) (Nat.le_of_ble_eq_true rfl) (Nat.le_of_ble_eq_true rfl) dX4_init_42 (fun cv H hP hD hS => ?_)
  have hP : zP G ([(xx, .inr (5, [.ref pg, .null, .null, .int (zI (0))])), (pg, .inr (4, [.int (zI ((max 1 (min 16 x1)))), .int (zI ((max 1 (min 12 x2)))), .int (zI (((max 1 (min 16 x1)) * (max 1 (min 12 x2))))), .ref ik, .ref pa, .int (zI (2040)), .int (zI (1))])), (ik, .inr (3, [.ref mx, .ref co, .int (zI (4))])), ia G pa ((8 * ((max 1 (min 16 x1)) * (max 1 (min 12 x2)))).toNat) (fun _ => 0), ia G mx 32 (mix0 4), ia G co 8 (seg0 0 (-1) 8), (cv, .inr (2, [.null, .null, .int (zI (0))]))]) H := hP
  have hD : va_D A ([(xx, .inr (5, [.ref pg, .null, .null, .int (zI (0))])), (pg, .inr (4, [.int (zI ((max 1 (min 16 x1)))), .int (zI ((max 1 (min 12 x2)))), .int (zI (((max 1 (min 16 x1)) * (max 1 (min 12 x2))))), .ref ik, .ref pa, .int (zI (2040)), .int (zI (1))])), (ik, .inr (3, [.ref mx, .ref co, .int (zI (4))])), ia G pa ((8 * ((max 1 (min 16 x1)) * (max 1 (min 12 x2)))).toNat) (fun _ => 0), ia G mx 32 (mix0 4), ia G co 8 (seg0 0 (-1) 8), (cv, .inr (2, [.null, .null, .int (zI (0))]))]) := hD
  refine W.widen (k := 6) (n := 1589) (Nat.le_of_ble_eq_true rfl) (Nat.le_of_ble_eq_true rfl) ?_
  refine lv_dup hx hb dX4_init_45 rfl ?_
  refine z_wI (G := G) (X := [(xx, .inr (5, [.ref pg, .null, .null, .int (zI (0))])), (pg, .inr (4, [.int (zI ((max 1 (min 16 x1)))), .int (zI ((max 1 (min 12 x2)))), .int (zI (((max 1 (min 16 x1)) * (max 1 (min 12 x2))))), .ref ik, .ref pa, .int (zI (2040)), .int (zI (1))])), (ik, .inr (3, [.ref mx, .ref co, .int (zI (4))])), ia G pa ((8 * ((max 1 (min 16 x1)) * (max 1 (min 12 x2)))).toNat) (fun _ => 0), ia G mx 32 (mix0 4), ia G co 8 (seg0 0 (-1) 8), (cv, .inr (2, [.null, .null, .int (zI (0))]))]) (pl := []) (As := []) (rest := [.ref cv, .ref xx]) hx hb hml hown hT hK (c_X1_init l G cv) kc_X4_29 ⟨Nat.le_of_ble_eq_true rfl, Nat.le_of_ble_eq_true rfl⟩ ⟨Nat.le_of_ble_eq_true rfl, Nat.le_of_ble_eq_true rfl⟩ hP hD hS hA [6] [0, 1, 2, 3, 4, 5] (wr := [(xx, .inr (5, [.ref pg, .null, .null, .int (zI (0))])), (pg, .inr (4, [.int (zI ((max 1 (min 16 x1)))), .int (zI ((max 1 (min 12 x2)))), .int (zI (((max 1 (min 16 x1)) * (max 1 (min 12 x2))))), .ref ik, .ref pa, .int (zI (2040)), .int (zI (1))])), (ik, .inr (3, [.ref mx, .ref co, .int (zI (4))])), ia G pa ((8 * ((max 1 (min 16 x1)) * (max 1 (min 12 x2)))).toNat) (fun _ => 0), ia G mx 32 (mix0 4), ia G co 8 (seg0 0 (-1) 8)]) rfl rfl rfl rfl (by decide) rfl hl.1 rfl (Nat.le_of_ble_eq_true rfl) dX4_init_46 (fun u9 H locs hok9 hP hD hS => ?_)
  obtain ⟨ca, cb⟩ := u9
  have hP : zP G ([(xx, .inr (5, [.ref pg, .null, .null, .int (zI (0))])), (pg, .inr (4, [.int (zI ((max 1 (min 16 x1)))), .int (zI ((max 1 (min 12 x2)))), .int (zI (((max 1 (min 16 x1)) * (max 1 (min 12 x2))))), .ref ik, .ref pa, .int (zI (2040)), .int (zI (1))])), (ik, .inr (3, [.ref mx, .ref co, .int (zI (4))])), ia G pa ((8 * ((max 1 (min 16 x1)) * (max 1 (min 12 x2)))).toNat) (fun _ => 0), ia G mx 32 (mix0 4), ia G co 8 (seg0 0 (-1) 8), (cv, .inr (2, [.ref ca, .ref cb, .int (zI (2))])), ia G ca 12 (zu (fun _ => 0) 1 255), ia G cb 12 (zu (fun _ => 0) 1 255)]) H := hP
  have hD : va_D A ([(xx, .inr (5, [.ref pg, .null, .null, .int (zI (0))])), (pg, .inr (4, [.int (zI ((max 1 (min 16 x1)))), .int (zI ((max 1 (min 12 x2)))), .int (zI (((max 1 (min 16 x1)) * (max 1 (min 12 x2))))), .ref ik, .ref pa, .int (zI (2040)), .int (zI (1))])), (ik, .inr (3, [.ref mx, .ref co, .int (zI (4))])), ia G pa ((8 * ((max 1 (min 16 x1)) * (max 1 (min 12 x2)))).toNat) (fun _ => 0), ia G mx 32 (mix0 4), ia G co 8 (seg0 0 (-1) 8), (cv, .inr (2, [.ref ca, .ref cb, .int (zI (2))])), ia G ca 12 (zu (fun _ => 0) 1 255), ia G cb 12 (zu (fun _ => 0) 1 255)]) := hD
  refine W.widen (k := 8) (n := 1613) (Nat.le_of_ble_eq_true rfl) (Nat.le_of_ble_eq_true rfl) ?_
  refine pf_X4_30 (ws' := [(xx, .inr (5, [.ref pg, .ref cv, .null, .int (zI (0))])), (pg, .inr (4, [.int (zI ((max 1 (min 16 x1)))), .int (zI ((max 1 (min 12 x2)))), .int (zI (((max 1 (min 16 x1)) * (max 1 (min 12 x2))))), .ref ik, .ref pa, .int (zI (2040)), .int (zI (1))])), (ik, .inr (3, [.ref mx, .ref co, .int (zI (4))])), ia G pa ((8 * ((max 1 (min 16 x1)) * (max 1 (min 12 x2)))).toNat) (fun _ => 0), ia G mx 32 (mix0 4), ia G co 8 (seg0 0 (-1) 8), (cv, .inr (2, [.ref ca, .ref cb, .int (zI (2))])), ia G ca 12 (zu (fun _ => 0) 1 255), ia G cb 12 (zu (fun _ => 0) 1 255)]) hx hb hT hown hin hK hP hD hS 0 rfl (Nat.le_of_ble_eq_true rfl) rfl rfl rfl dX4_init_49 (fun H locs hP hD hS => ?_)
  refine lv_aload_n hx hb dX4_init_52 rfl (lv_at hl 2 rfl) ?_
  refine z_bipush hx hb dX4_init_53 (by decide +kernel) ?_
  refine z_newq hx hb hown hT hAO hK hP hD hS hA (N := 6) (by omega) (Nat.le_of_ble_eq_true rfl) (Nat.le_of_ble_eq_true rfl) dX4_init_55 (fun ar H hP hD hS => ?_)
  have hP : zP G ([(xx, .inr (5, [.ref pg, .ref cv, .null, .int (zI (0))])), (pg, .inr (4, [.int (zI ((max 1 (min 16 x1)))), .int (zI ((max 1 (min 12 x2)))), .int (zI (((max 1 (min 16 x1)) * (max 1 (min 12 x2))))), .ref ik, .ref pa, .int (zI (2040)), .int (zI (1))])), (ik, .inr (3, [.ref mx, .ref co, .int (zI (4))])), ia G pa ((8 * ((max 1 (min 16 x1)) * (max 1 (min 12 x2)))).toNat) (fun _ => 0), ia G mx 32 (mix0 4), ia G co 8 (seg0 0 (-1) 8), (cv, .inr (2, [.ref ca, .ref cb, .int (zI (2))])), ia G ca 12 (zu (fun _ => 0) 1 255), ia G cb 12 (zu (fun _ => 0) 1 255), aq G ar 6 (fun _ => none)]) H := hP
  have hD : va_D A ([(xx, .inr (5, [.ref pg, .ref cv, .null, .int (zI (0))])), (pg, .inr (4, [.int (zI ((max 1 (min 16 x1)))), .int (zI ((max 1 (min 12 x2)))), .int (zI (((max 1 (min 16 x1)) * (max 1 (min 12 x2))))), .ref ik, .ref pa, .int (zI (2040)), .int (zI (1))])), (ik, .inr (3, [.ref mx, .ref co, .int (zI (4))])), ia G pa ((8 * ((max 1 (min 16 x1)) * (max 1 (min 12 x2)))).toNat) (fun _ => 0), ia G mx 32 (mix0 4), ia G co 8 (seg0 0 (-1) 8), (cv, .inr (2, [.ref ca, .ref cb, .int (zI (2))])), ia G ca 12 (zu (fun _ => 0) 1 255), ia G cb 12 (zu (fun _ => 0) 1 255), aq G ar 6 (fun _ => none)]) := hD
  refine W.widen (k := 9) (n := 1619) (Nat.le_of_ble_eq_true rfl) (Nat.le_of_ble_eq_true rfl) ?_
  refine pf_X4_36 (ws' := [(xx, .inr (5, [.ref pg, .ref cv, .ref ar, .int (zI (0))])), (pg, .inr (4, [.int (zI ((max 1 (min 16 x1)))), .int (zI ((max 1 (min 12 x2)))), .int (zI (((max 1 (min 16 x1)) * (max 1 (min 12 x2))))), .ref ik, .ref pa, .int (zI (2040)), .int (zI (1))])), (ik, .inr (3, [.ref mx, .ref co, .int (zI (4))])), ia G pa ((8 * ((max 1 (min 16 x1)) * (max 1 (min 12 x2)))).toNat) (fun _ => 0), ia G mx 32 (mix0 4), ia G co 8 (seg0 0 (-1) 8), (cv, .inr (2, [.ref ca, .ref cb, .int (zI (2))])), ia G ca 12 (zu (fun _ => 0) 1 255), ia G cb 12 (zu (fun _ => 0) 1 255), aq G ar 6 (fun _ => none)]) hx hb hT hown hin hK hP hD hS 0 rfl (Nat.le_of_ble_eq_true rfl) rfl rfl rfl dX4_init_58 (fun H locs hP hD hS => ?_)
  refine lv_aload_n hx hb dX4_init_61 rfl (lv_at hl 2 rfl) ?_
  refine z_iconst hx hb dX4_init_62 ?_
  refine pf_X4_40 (ws' := [(xx, .inr (5, [.ref pg, .ref cv, .ref ar, .int (zI (0))])), (pg, .inr (4, [.int (zI ((max 1 (min 16 x1)))), .int (zI ((max 1 (min 12 x2)))), .int (zI (((max 1 (min 16 x1)) * (max 1 (min 12 x2))))), .ref ik, .ref pa, .int (zI (2040)), .int (zI (1))])), (ik, .inr (3, [.ref mx, .ref co, .int (zI (4))])), ia G pa ((8 * ((max 1 (min 16 x1)) * (max 1 (min 12 x2)))).toNat) (fun _ => 0), ia G mx 32 (mix0 4), ia G co 8 (seg0 0 (-1) 8), (cv, .inr (2, [.ref ca, .ref cb, .int (zI (2))])), ia G ca 12 (zu (fun _ => 0) 1 255), ia G cb 12 (zu (fun _ => 0) 1 255), aq G ar 6 (fun _ => none)]) hx hb hT hown hK hP hD hS 0 rfl (Nat.le_of_ble_eq_true rfl) rfl rfl rfl dX4_init_63 (fun H locs hP hD hS => ?_)
  exact z_wrv (pg, ik, mx, co, pa, cv, ca, cb, ar) hx hb hr hlocks hK hP hD hS (trivial) dX4_init_66
