abbrev zWr (l : Launch) (y : MethodName) (bytes : ByteArray) (maxL : Nat) (ret : Option FieldType) (rm : Room) (G : zG) (av : List Value) (ws : va_W) {S : Type} (ad : S → Nat) (ok : S → Prop) (ws2 : S → va_W) : Prop :=
  ∀ sz : Nat, Met l y (Cond.code y bytes maxL ret :: TB) rm (zPw G av ws sz) (va_Qr (fun u => ok u) (fun u a t => a = ad u ∧ zB G (va_A ws sz) ws2 u t) (va_A ws sz)) rm.cells rm.slots (va_A ws sz)
section ZV
variable {p : Program} {l : Launch} {e : Env} {R : Room} {s : State} {m : MethodId} {args : Array Value} {below : List Frame} {meth : Method} {c : Code} {H : Heap} {locs : List Loc} {cells slots : Nat} {Q : State → Prop} {cc : ByteArray} {pc nL : Nat} {ls : Array Slot} {rest st0 : List Value} {A0 : Nat → Prop} {H0 : Heap} {G : zG} {X wc wr pl : va_W}
theorem z_wVr {y : MethodName} {bytes : ByteArray} {maxL index n ci q0 b : Nat} {ret : Option FieldType} {own C : String} {rm : Room} {As : List Value} {fs : List Value} {r : vw_C} {S : Type} {ad : S → Nat} {ok : S → Prop} {ws2 : S → va_W} (hx : p.tables.exec = Jvm.exec) (hb : c.code = cc) (hml : c.maxLocals = nL) (hown : s.vm.findClass own = some m.cls) (hT : ∀ w ∈ TB, w.before args s = true) (hK : zK G s)
    (hM : zWr l y bytes maxL ret rm G (.ref b :: As) wc ad ok ws2) (kc : kcV own index C y bytes maxL ret n) (hR : rm.frames + 1 ≤ R.frames ∧ 8 + (maxL + 11) + rm.locals ≤ R.locals) (hcell : cells + rm.cells ≤ R.cells ∧ slots + rm.slots ≤ R.slots) (hP : zP G (X ++ pl) H) (hD : va_D A0 (X ++ pl)) (hS : va_S A0 H0 H locs) (hA : ∀ q, H0.size ≤ q → A0 q) (isC isR : List Nat) (hC : isC.map (fun i => X[i]?) = wc.map some) (hRr : isR.map (fun i => X[i]?) = wr.map some) (hnC : va_nd isC = true) (hnR : va_nd isR = true) (hdis : ∀ i ∈ isR, i ∉ isC) (he : wc[q0]? = some (b, .inr (ci, fs))) (hc : vwCl[ci]? = some r) (hC' : r.1 = C) (hn : As.length = n) (hls : ls.size = nL) (hst : st0 = As.reverse ++ .ref b :: rest) (hrest : (rest.map fun v => v.category).sum ≤ 8) (hd : decode cc pc = .ok (.invokevirtual index, 3))
    (k : ∀ (u : S) (H : Heap) (locs : List Loc), ok u → zP G ((wr ++ ws2 u) ++ pl) H → va_D A0 ((wr ++ ws2 u) ++ pl) → va_S A0 H0 H locs → W p l e R s m args below meth c H locs (cells + rm.cells) (slots + rm.slots) Q (F0 m (pc + 3) ls (.ref (ad u) :: rest))) : W p l e R s m args below meth c H locs cells slots Q (F0 m pc ls st0) := by
  subst hC'
  have hG := kc_G kc
  obtain ⟨k1, k2, k3, k4, k5, k6, k7, k8, k9⟩ := kc
  have hDx := zD_left hD
  have hPc : zP G wc H := (zP_left hP).sub isC (fm_map (wc := wc) isC wc hC)
  have hDc := hDx.sub isC hnC hC
  have hFc := va_free hDx hS hA isC hC
  refine va_callr (va_runV (As := As) (rest := rest) (g := F0 m pc ls st0) ⟨hx, hb, hml, hown, hT⟩ (hM H.size) (cwV n hT hG rfl rfl rfl ⟨k6, k7, k8, k9⟩ hR) ⟨zPw_blind G _ _ _, va_recv hK hPc hc he, fun U hU hW => ⟨rfl, by rw [hU], by rw [hU]; exact hPc, va_K.moved hW.alike hK, hDc.weaken (fun _ _ _ _ => trivial)⟩⟩ rfl hn hls hst (lv_room hrest) hd hcell) hS (fun q _ h => hFc q h) hFc (fun u ra t H1 locs1 ht hvm hw hB hz1 hk1 hS1 => ?_)
  obtain ⟨hra, hP1, hK1, hD1⟩ := hB
  rw [ht] at hP1
  obtain ⟨hP2, hD2⟩ := va_joinQ hP hD isC isR hC hRr hnR hdis hk1 hFc hP1 hD1
  rw [hra]
  exact k u H1 locs1 hw hP2 hD2 hS1
theorem z_wra {A : Nat → Prop} {S : Type} {ad : S → Nat} {ok : S → Prop} {ws2 : S → va_W} {val : Nat} {rt : FieldType} (u : S) (hx : p.tables.exec = Jvm.exec) (hb : c.code = cc) (hr : meth.sig.returnType = some rt) (hrt : (∃ n, rt = .object n) ∨ ∃ t, rt = .array t) (hlocks : meth.locks = false) (hK : zK G s) (hP : zP G (ws2 u) H) (hD : va_D A (ws2 u)) (hS : va_S A s.heap H locs) (hok : ok u) (hv : val = ad u) (hd : decode cc pc = .ok (.areturn, 1)) : W p l e R s m args below meth c H locs cells slots (MQ below (va_Qr (fun u => ok u) (fun u a t => a = ad u ∧ zB G A ws2 u t) A) args s cells slots A) (F0 m pc ls [.ref val]) :=
  W.aret hx hb hr hrt (Or.inr ⟨_, rfl⟩) (fun t ht hW => ⟨⟨u, val, rfl, hok, hv, by rw [ht]; exact hP, va_K.moved hW.alike hK, hD⟩, hS.F ht⟩) hS.2.2 hd hlocks
end ZV
theorem n1_0 (S : Int → Int) : n1 S 0 = fun _ => 0 := rfl
theorem KP_s (K R : Int → Int) {i : Int} (hi : 0 ≤ i) : zu (ZS K 0 i R) i (R i) = ZS K 0 (i + 1) R := by
  have h := ZS_s K 0 R hi
  rw [Int.zero_add] at h
  exact h

set_option maxHeartbeats 4000000 in
set_option maxRecDepth 100000 in
theorem c_X0_leastSizes (l : Launch) (G : zG) (ce ra : Nat) (n : Nat) (dp br sl : Int) (K : Int → Int) (hdp : 1 ≤ dp ∧ dp ≤ 12) (hbr : 1 ≤ br ∧ br ≤ 288) (hsl : 0 ≤ sl ∧ sl < br) (hn : ((n : Nat) : Int) = dp * br) (hn2 : ((n : Nat) : Int) ≤ 288) : zWr l yX0_leastSizes cX0_leastSizes 5 (some (.array .int)) { frames := 2, cells := 1, slots := 300, locals := 45 } G [.ref ce] ([(ce, .inr (1, [.int (zI (dp)), .int (zI (br)), .int (zI (sl)), .ref ra])), ia G ra n K]) (S := Nat × (Int → Int)) (fun u => u.1) (fun u => isM 288 ((n : Nat) : Int) (nmV dp br sl) (full 12) u.2) (fun u => clL G ce ra n dp br sl K ++ [ia G u.1 n u.2]) := by
  intro sz
  refine Met.ofW (cc := cX0_leastSizes) (maxL := 5) (ret := (some (.array .int))) (by decide) rfl ?_
  intro p e s m args below meth c s₁ B hml hv
  obtain ⟨rfl, hsz, hP, hK, hD0⟩ := hv
  have hx := B.exec
  have hb := B.bytes
  have hr := B.returns
  have hT : ∀ w ∈ TB, w.before _ s = true := fun w h => atoms_spec (ws := Cond.code yX0_leastSizes cX0_leastSizes 5 (some (.array .int)) :: TB) B.pre w (List.mem_cons_of_mem _ h)
  have hown : s.vm.findClass RX0 = some m.cls := findClass_of_methodNamed B.named
  have hlocks := B.notSynchronized
  subst hsz
  have hD := hD0.self (sz := s.heap.size)
  generalize hAe : va_A ([(ce, .inr (1, [.int (zI (dp)), .int (zI (br)), .int (zI (sl)), .ref ra])), ia G ra n K]) s.heap.size = A at hD ⊢
  have hA : ∀ q : Nat, s.heap.size ≤ q → A q := fun q h => by rw [← hAe]; exact Or.inr h
  have hS : va_S A s.heap s.heap [] := va_S.rf
  have hP : zP G ([(ce, .inr (1, [.int (zI (dp)), .int (zI (br)), .int (zI (sl)), .ref ra])), ia G ra n K]) s.heap := hP
  have hD : va_D A ([(ce, .inr (1, [.int (zI (dp)), .int (zI (br)), .int (zI (sl)), .ref ra])), ia G ra n K]) := hD
  have hl := lv_entry ([.ref ce]) (n := 5) (Nat.le_of_ble_eq_true rfl)
  rw [lg_entry_eq]
  generalize (lg_sl ([.ref ce]) ++ List.replicate (5 - (lg_sl ([.ref ce])).length) Slot.unset).toArray = ls at hl ⊢
  have hl : lv_has ls 5 [(0, .ref ce)] := hl
  refine lv_aload_n hx hb dX0_leastSizes_0 rfl (lv_at hl 0 rfl) ?_
  refine gf_X0_37 hx hb hT hown hK hP 0 rfl rfl dX0_leastSizes_1 ?_
  refine z_alen hx hb hK hP 1 rfl dX0_leastSizes_4 ?_
  refine z_newa hx hb hT hK hP hD hS hA (N := n) (⟨rfl, by omega⟩) (Nat.le_of_ble_eq_true rfl) (by show 0 + n ≤ 300; omega) dX0_leastSizes_5 (fun sa H hP hD hS => ?_)
  have hP : zP G ([(ce, .inr (1, [.int (zI (dp)), .int (zI (br)), .int (zI (sl)), .ref ra])), ia G ra n K, ia G sa n (fun _ => 0)]) H := hP
  have hD : va_D A ([(ce, .inr (1, [.int (zI (dp)), .int (zI (br)), .int (zI (sl)), .ref ra])), ia G ra n K, ia G sa n (fun _ => 0)]) := hD
  refine W.widen (k := 1) (n := 300) (Nat.le_of_ble_eq_true rfl) (by omega) ?_
  refine lv_astore_n (lv' := [(1, .ref sa), (0, .ref ce)]) hx hb dX0_leastSizes_7 rfl hl (by decide) rfl (fun ls hl => ?_)
  refine z_iconst hx hb dX0_leastSizes_8 ?_
  refine lv_istore_n (lv' := [(2, .int (zI (0))), (1, .ref sa), (0, .ref ce)]) hx hb dX0_leastSizes_9 rfl hl (by decide) rfl (fun ls hl => ?_)
  have hP : zP G ([(ce, .inr (1, [.int (zI (dp)), .int (zI (br)), .int (zI (sl)), .ref ra])), ia G ra n K, ia G sa n (seg0 0 288 0)]) H := by rw [seg0_0]; exact hP
  have hD : va_D A ([(ce, .inr (1, [.int (zI (dp)), .int (zI (br)), .int (zI (sl)), .ref ra])), ia G ra n K, ia G sa n (seg0 0 288 0)]) := by rw [seg0_0]; exact hD
  refine z_loopH (σ := Int × Array Slot) (fun zq => F0 m 10 (zq.2) []) (fun zq => (0 ≤ zq.1 ∧ zq.1 ≤ ((n : Nat) : Int)) ∧ lv_has (zq.2) 5 [(0, .ref ce), (1, .ref sa), (2, .int (zI (zq.1)))]) (fun zq => [(ce, .inr (1, [.int (zI (dp)), .int (zI (br)), .int (zI (sl)), .ref ra])), ia G ra n K, ia G sa n (seg0 0 288 zq.1)]) (fun zq => (((n : Nat) : Int) - zq.1).toNat) ?_ (0, ls) ⟨by refine ⟨?_, ?_⟩ <;> omega, lv_sub hl [2, 1, 0] rfl⟩ hP hD hS
  intro zq H locs hq hP hD hS ih
  obtain ⟨k, ls⟩ := zq
  obtain ⟨hI, hl⟩ := hq
  try dsimp only at hI hl ih hP hD ⊢
  have hP : zP G ([(ce, .inr (1, [.int (zI (dp)), .int (zI (br)), .int (zI (sl)), .ref ra])), ia G ra n K, ia G sa n (seg0 0 288 k)]) H := hP
  have hD : va_D A ([(ce, .inr (1, [.int (zI (dp)), .int (zI (br)), .int (zI (sl)), .ref ra])), ia G ra n K, ia G sa n (seg0 0 288 k)]) := hD
  have ih10 := ih
  refine lv_iload_n hx hb dX0_leastSizes_10 rfl (lv_at hl 2 rfl) ?_
  refine lv_aload_n hx hb dX0_leastSizes_11 rfl (lv_at hl 1 rfl) ?_
  refine z_alen hx hb hK hP 2 rfl dX0_leastSizes_12 ?_
  refine z_icmp_ge (tgt := 28) hx hb dX0_leastSizes_13 (by decide) (by omega) (by omega) (fun h13 => ?_) (fun h13 => ?_)
  · skip
    have hk9 : k = ((n : Nat) : Int) := by omega
    rw [hk9] at hP hD
    refine z_bipush hx hb dX0_leastSizes_28 (by decide +kernel) ?_
    refine lv_istore_n (lv' := [(2, .int (zI ((-12)))), (0, .ref ce), (1, .ref sa)]) hx hb dX0_leastSizes_30 rfl hl (by decide) rfl (fun ls hl => ?_)
    refine z_loopH (σ := (Int → Int) × Int × Array Slot) (fun zq => F0 m 31 (zq.2.2) []) (fun zq => ((-12 ≤ zq.2.1 ∧ zq.2.1 ≤ 13) ∧ isM 288 ((n : Nat) : Int) (nmV dp br sl) (wnd 12 (-12) zq.2.1) zq.1) ∧ lv_has (zq.2.2) 5 [(0, .ref ce), (1, .ref sa), (2, .int (zI (zq.2.1)))]) (fun zq => [(ce, .inr (1, [.int (zI (dp)), .int (zI (br)), .int (zI (sl)), .ref ra])), ia G ra n K, ia G sa n zq.1]) (fun zq => (13 - zq.2.1).toNat) ?_ ((seg0 0 288 ((n : Nat) : Int)), (-12), ls) ⟨⟨by dsimp only; omega, isM_0 (by omega) (fun x9 y9 => by unfold wnd; dsimp only; omega) (fun i9 h1 h2 => if_pos ⟨h1, h2⟩)⟩, lv_sub hl [1, 2, 0] rfl⟩ hP hD hS
    intro zq H locs hq hP hD hS ih
    obtain ⟨S, y, ls⟩ := zq
    obtain ⟨⟨hI, hI2⟩, hl⟩ := hq
    try dsimp only at hI hI2 hl ih hP hD ⊢
    have hP : zP G ([(ce, .inr (1, [.int (zI (dp)), .int (zI (br)), .int (zI (sl)), .ref ra])), ia G ra n K, ia G sa n S]) H := hP
    have hD : va_D A ([(ce, .inr (1, [.int (zI (dp)), .int (zI (br)), .int (zI (sl)), .ref ra])), ia G ra n K, ia G sa n S]) := hD
    have ih31 := ih
    refine lv_iload_n hx hb dX0_leastSizes_31 rfl (lv_at hl 2 rfl) ?_
    refine z_bipush hx hb dX0_leastSizes_32 (by decide +kernel) ?_
    refine z_icmp_gt (tgt := 84) hx hb dX0_leastSizes_34 (by decide) (by omega) (by omega) (fun h34 => ?_) (fun h34 => ?_)
    · skip
      have hfin := isM_full hI2 (by omega)
      refine lv_aload_n hx hb dX0_leastSizes_84 rfl (lv_at hl 1 rfl) ?_
      refine W.widen (k := 1) (n := 300) (Nat.le_of_ble_eq_true rfl) (Nat.le_of_ble_eq_true rfl) ?_
      exact z_wra (sa, S) hx hb hr (Or.inr ⟨_, rfl⟩) hlocks hK hP hD hS (hfin) (rfl) dX0_leastSizes_85
    · skip
      refine z_bipush hx hb dX0_leastSizes_37 (by decide +kernel) ?_
      refine lv_istore_n (lv' := [(3, .int (zI ((-12)))), (0, .ref ce), (1, .ref sa), (2, .int (zI (y)))]) hx hb dX0_leastSizes_39 rfl hl (by decide) rfl (fun ls hl => ?_)
      refine z_loopH (σ := (Int → Int) × Int × Array Slot) (fun zq => F0 m 40 (zq.2.2) []) (fun zq => ((-12 ≤ zq.2.1 ∧ zq.2.1 ≤ 13) ∧ isM 288 ((n : Nat) : Int) (nmV dp br sl) (wnd 12 zq.2.1 y) zq.1) ∧ lv_has (zq.2.2) 5 [(0, .ref ce), (1, .ref sa), (2, .int (zI (y))), (3, .int (zI (zq.2.1)))]) (fun zq => [(ce, .inr (1, [.int (zI (dp)), .int (zI (br)), .int (zI (sl)), .ref ra])), ia G ra n K, ia G sa n zq.1]) (fun zq => (13 - zq.2.1).toNat) ?_ (S, (-12), ls) ⟨⟨by dsimp only; omega, hI2⟩, lv_sub hl [1, 2, 3, 0] rfl⟩ hP hD hS
      intro zq H locs hq hP hD hS ih
      obtain ⟨S1, x, ls⟩ := zq
      obtain ⟨⟨hJ, hJ2⟩, hl⟩ := hq
      try dsimp only at hJ hJ2 hl ih hP hD ⊢
      have hP : zP G ([(ce, .inr (1, [.int (zI (dp)), .int (zI (br)), .int (zI (sl)), .ref ra])), ia G ra n K, ia G sa n S1]) H := hP
      have hD : va_D A ([(ce, .inr (1, [.int (zI (dp)), .int (zI (br)), .int (zI (sl)), .ref ra])), ia G ra n K, ia G sa n S1]) := hD
      have ih40 := ih
      refine lv_iload_n hx hb dX0_leastSizes_40 rfl (lv_at hl 3 rfl) ?_
      refine z_bipush hx hb dX0_leastSizes_41 (by decide +kernel) ?_
      refine z_icmp_gt (tgt := 78) hx hb dX0_leastSizes_43 (by decide) (by omega) (by omega) (fun h43 => ?_) (fun h43 => ?_)
      · skip
        refine lv_iinc (v := zI (y + (1))) (lv' := [(2, .int (zI (y + (1)))), (0, .ref ce), (1, .ref sa), (3, .int (zI (x)))]) hx hb dX0_leastSizes_78 hl (k := 2) rfl (zI_add _ _) (by decide) rfl (fun ls hl => ?_)
        refine z_goto (tgt := 31) hx hb dX0_leastSizes_81 (by decide) ?_
        exact ih31 (S1, y + 1, ls) _ _ ⟨⟨by dsimp only; omega, isM_row hJ2 (by omega)⟩, lv_sub hl [1, 2, 0] rfl⟩ (by dsimp only; omega) hP hD hS
      · skip
        have hnb := nm_b (sl := sl) (x := x) (y := y) hdp hbr
        obtain ⟨g1, g2, -, -⟩ := hJ2 (nmV dp br sl x y) (by omega) (by omega)
        have q1 := mul_bs (a := x) (b := x) (A := 12) (B := 12) (by omega) (by omega)
        have q2 := mul_bs (a := y) (b := y) (A := 12) (B := 12) (by omega) (by omega)
        refine lv_aload_n hx hb dX0_leastSizes_46 rfl (lv_at hl 0 rfl) ?_
        refine lv_iload_n hx hb dX0_leastSizes_47 rfl (lv_at hl 3 rfl) ?_
        refine lv_iload_n hx hb dX0_leastSizes_48 rfl (lv_at hl 2 rfl) ?_
        refine z_callV (q0 := 0) (G := G) (As := [.int (zI (x)), .int (zI (y))]) (rest := []) hx hb hml hown hT hK (c_X0_numberOf l G ce ra n dp br sl K (x) (y) hdp hbr hsl (by omega) (by omega)) kc_X0_52 ⟨Nat.le_of_ble_eq_true rfl, Nat.le_of_ble_eq_true rfl⟩ ⟨rfl, rfl⟩ ⟨Nat.le_of_ble_eq_true rfl, Nat.le_of_ble_eq_true rfl⟩ (hP.sub [0, 1] rfl) rfl rfl rfl rfl hl.1 rfl (Nat.le_of_ble_eq_true rfl) dX0_leastSizes_49 ?_
        refine lv_istore (lv' := [(4, .int (zI ((nmV dp br sl x y)))), (0, .ref ce), (1, .ref sa), (2, .int (zI (y))), (3, .int (zI (x)))]) hx hb dX0_leastSizes_52 hl (by decide) rfl (fun ls hl => ?_)
        refine lv_aload_n hx hb dX0_leastSizes_54 rfl (lv_at hl 2 rfl) ?_
        refine lv_iload hx hb dX0_leastSizes_55 (lv_at hl 0 rfl) ?_
        refine lv_aload_n hx hb dX0_leastSizes_57 rfl (lv_at hl 2 rfl) ?_
        refine lv_iload hx hb dX0_leastSizes_58 (lv_at hl 0 rfl) ?_
        refine z_iald hx hb hK hP 2 rfl (⟨by omega, by omega, by omega⟩) dX0_leastSizes_60 ?_
        refine lv_iload_n hx hb dX0_leastSizes_61 rfl (lv_at hl 4 rfl) ?_
        refine lv_iload_n hx hb dX0_leastSizes_62 rfl (lv_at hl 4 rfl) ?_
        refine z_imul hx hb dX0_leastSizes_63 ?_
        refine lv_iload_n hx hb dX0_leastSizes_64 rfl (lv_at hl 3 rfl) ?_
        refine lv_iload_n hx hb dX0_leastSizes_65 rfl (lv_at hl 3 rfl) ?_
        refine z_imul hx hb dX0_leastSizes_66 ?_
        refine z_iadd hx hb dX0_leastSizes_67 ?_
        refine z_mmin hx hb hml hl.1 hown hT kc_X0_55 ⟨Nat.le_of_ble_eq_true rfl, Nat.le_of_ble_eq_true rfl⟩ ⟨Nat.le_of_ble_eq_true rfl, Nat.le_of_ble_eq_true rfl⟩ (by omega) (by omega) dX0_leastSizes_68 ?_
        refine z_iast (ws' := [(ce, .inr (1, [.int (zI (dp)), .int (zI (br)), .int (zI (sl)), .ref ra])), ia G ra n K, ia G sa n (zu S1 (nmV dp br sl x y) (min (S1 (nmV dp br sl x y)) ((x * x) + (y * y))))]) hx hb hK hP hD hS 2 rfl (⟨by omega, by omega, by omega⟩) dX0_leastSizes_71 rfl (fun H locs hP hD hS => ?_)
        refine lv_iinc (v := zI (x + (1))) (lv' := [(3, .int (zI (x + (1)))), (4, .int (zI ((nmV dp br sl x y)))), (0, .ref ce), (1, .ref sa), (2, .int (zI (y)))]) hx hb dX0_leastSizes_72 hl (k := 4) rfl (zI_add _ _) (by decide) rfl (fun ls hl => ?_)
        refine z_goto (tgt := 40) hx hb dX0_leastSizes_75 (by decide) ?_
        exact ih40 ((zu S1 (nmV dp br sl x y) (min (S1 (nmV dp br sl x y)) (x * x + y * y))), x + 1, ls) _ _ ⟨⟨by dsimp only; omega, isM_step hJ2 (by omega) (by omega)⟩, lv_sub hl [2, 3, 4, 0] rfl⟩ (by dsimp only; omega) hP hD hS
  · skip
    refine lv_aload_n hx hb dX0_leastSizes_16 rfl (lv_at hl 1 rfl) ?_
    refine lv_iload_n hx hb dX0_leastSizes_17 rfl (lv_at hl 2 rfl) ?_
    refine z_sipush hx hb dX0_leastSizes_18 (by decide +kernel) ?_
    refine z_iast (ws' := [(ce, .inr (1, [.int (zI (dp)), .int (zI (br)), .int (zI (sl)), .ref ra])), ia G ra n K, ia G sa n (zu (seg0 0 288 k) k 288)]) hx hb hK hP hD hS 2 rfl (⟨by omega, by omega, by omega⟩) dX0_leastSizes_21 rfl (fun H locs hP hD hS => ?_)
    rw [show (zu (seg0 0 288 k) k 288) = (seg0 0 288 (k + 1)) from seg0_s (by omega)] at hP hD
    refine lv_iinc (v := zI (k + (1))) (lv' := [(2, .int (zI (k + (1)))), (0, .ref ce), (1, .ref sa)]) hx hb dX0_leastSizes_22 hl (k := 2) rfl (zI_add _ _) (by decide) rfl (fun ls hl => ?_)
    refine z_goto (tgt := 10) hx hb dX0_leastSizes_25 (by decide) ?_
    exact ih10 (k + 1, ls) _ _ ⟨by refine ⟨?_, ?_⟩ <;> omega, lv_sub hl [1, 2, 0] rfl⟩ (by omega) hP hD hS

set_option maxHeartbeats 4000000 in
set_option maxRecDepth 100000 in
theorem c_X0_rankBySize (l : Launch) (G : zG) (ce ra : Nat) (n : Nat) (dp br sl : Int) (K : Int → Int) (sa : Nat) (S : Int → Int) (hn2 : ((n : Nat) : Int) ≤ 288) (hSb : ∀ j, 0 ≤ j → j < ((n : Nat) : Int) → 0 ≤ S j ∧ S j ≤ 288) : zWv l yX0_rankBySize cX0_rankBySize 7 { frames := 0, cells := 1, slots := 290, locals := 0 } G [.ref ce, .ref sa] ([(ce, .inr (1, [.int (zI (dp)), .int (zI (br)), .int (zI (sl)), .ref ra])), ia G ra n K, ia G sa n S]) (S := Unit) (fun u => True) (fun u => clL G ce ra n dp br sl (ZS K 0 ((n : Nat) : Int) (rkF S ((n : Nat) : Int))) ++ [ia G sa n S]) := by
  intro sz
  refine Met.ofW (cc := cX0_rankBySize) (maxL := 7) (ret := none) (by decide) rfl ?_
  intro p e s m args below meth c s₁ B hml hv
  obtain ⟨rfl, hsz, hP, hK, hD0⟩ := hv
  have hx := B.exec
  have hb := B.bytes
  have hr := B.returns
  have hT : ∀ w ∈ TB, w.before _ s = true := fun w h => atoms_spec (ws := Cond.code yX0_rankBySize cX0_rankBySize 7 none :: TB) B.pre w (List.mem_cons_of_mem _ h)
  have hown : s.vm.findClass RX0 = some m.cls := findClass_of_methodNamed B.named
  have hlocks := B.notSynchronized
  subst hsz
  have hD := hD0.self (sz := s.heap.size)
  generalize hAe : va_A ([(ce, .inr (1, [.int (zI (dp)), .int (zI (br)), .int (zI (sl)), .ref ra])), ia G ra n K, ia G sa n S]) s.heap.size = A at hD ⊢
  have hA : ∀ q : Nat, s.heap.size ≤ q → A q := fun q h => by rw [← hAe]; exact Or.inr h
  have hS : va_S A s.heap s.heap [] := va_S.rf
  have hP : zP G ([(ce, .inr (1, [.int (zI (dp)), .int (zI (br)), .int (zI (sl)), .ref ra])), ia G ra n K, ia G sa n S]) s.heap := hP
  have hD : va_D A ([(ce, .inr (1, [.int (zI (dp)), .int (zI (br)), .int (zI (sl)), .ref ra])), ia G ra n K, ia G sa n S]) := hD
  have hl := lv_entry ([.ref ce, .ref sa]) (n := 7) (Nat.le_of_ble_eq_true rfl)
  rw [lg_entry_eq]
  generalize (lg_sl ([.ref ce, .ref sa]) ++ List.replicate (7 - (lg_sl ([.ref ce, .ref sa])).length) Slot.unset).toArray = ls at hl ⊢
  have hl : lv_has ls 7 [(0, .ref ce), (1, .ref sa)] := hl
  refine z_sipush hx hb dX0_rankBySize_0 (by decide +kernel) ?_
  refine z_newa hx hb hT hK hP hD hS hA (N := 290) (by omega) (Nat.le_of_ble_eq_true rfl) (Nat.le_of_ble_eq_true rfl) dX0_rankBySize_3 (fun nx H hP hD hS => ?_)
  have hP : zP G ([(ce, .inr (1, [.int (zI (dp)), .int (zI (br)), .int (zI (sl)), .ref ra])), ia G ra n K, ia G sa n S, ia G nx 290 (fun _ => 0)]) H := hP
  have hD : va_D A ([(ce, .inr (1, [.int (zI (dp)), .int (zI (br)), .int (zI (sl)), .ref ra])), ia G ra n K, ia G sa n S, ia G nx 290 (fun _ => 0)]) := hD
  refine W.widen (k := 1) (n := 290) (Nat.le_of_ble_eq_true rfl) (Nat.le_of_ble_eq_true rfl) ?_
  refine lv_astore_n (lv' := [(2, .ref nx), (0, .ref ce), (1, .ref sa)]) hx hb dX0_rankBySize_5 rfl hl (by decide) rfl (fun ls hl => ?_)
  refine lv_aload_n hx hb dX0_rankBySize_6 rfl (lv_at hl 2 rfl) ?_
  refine lv_astore_n (lv' := [(3, .ref sa), (2, .ref nx), (0, .ref ce), (1, .ref sa)]) hx hb dX0_rankBySize_7 rfl hl (by decide) rfl (fun ls hl => ?_)
  refine lv_aload_n hx hb dX0_rankBySize_8 rfl (lv_at hl 0 rfl) ?_
  refine z_alen hx hb hK hP 2 rfl dX0_rankBySize_9 ?_
  refine lv_istore (lv' := [(4, .int (zI (((n : Nat) : Int)))), (3, .ref sa), (2, .ref nx), (0, .ref ce), (1, .ref sa)]) hx hb dX0_rankBySize_10 hl (by decide) rfl (fun ls hl => ?_)
  refine z_iconst hx hb dX0_rankBySize_12 ?_
  refine lv_istore (lv' := [(5, .int (zI (0))), (4, .int (zI (((n : Nat) : Int)))), (3, .ref sa), (2, .ref nx), (0, .ref ce), (1, .ref sa)]) hx hb dX0_rankBySize_13 hl (by decide) rfl (fun ls hl => ?_)
  have hP : zP G ([(ce, .inr (1, [.int (zI (dp)), .int (zI (br)), .int (zI (sl)), .ref ra])), ia G ra n K, ia G sa n S, ia G nx 290 (n1 S 0)]) H := by rw [n1_0]; exact hP
  have hD : va_D A ([(ce, .inr (1, [.int (zI (dp)), .int (zI (br)), .int (zI (sl)), .ref ra])), ia G ra n K, ia G sa n S, ia G nx 290 (n1 S 0)]) := by rw [n1_0]; exact hD
  refine z_loopH (σ := Int × Array Slot) (fun zq => F0 m 15 (zq.2) []) (fun zq => (0 ≤ zq.1 ∧ zq.1 ≤ ((n : Nat) : Int)) ∧ lv_has (zq.2) 7 [(0, .ref ce), (1, .ref sa), (2, .ref nx), (3, .ref sa), (4, .int (zI (((n : Nat) : Int)))), (5, .int (zI (zq.1)))]) (fun zq => [(ce, .inr (1, [.int (zI (dp)), .int (zI (br)), .int (zI (sl)), .ref ra])), ia G ra n K, ia G sa n S, ia G nx 290 (n1 S zq.1)]) (fun zq => (((n : Nat) : Int) - zq.1).toNat) ?_ (0, ls) ⟨by refine ⟨?_, ?_⟩ <;> omega, lv_sub hl [4, 5, 3, 2, 1, 0] rfl⟩ hP hD hS
  intro zq H locs hq hP hD hS ih
  obtain ⟨i, ls⟩ := zq
  obtain ⟨hI, hl⟩ := hq
  try dsimp only at hI hl ih hP hD ⊢
  have hP : zP G ([(ce, .inr (1, [.int (zI (dp)), .int (zI (br)), .int (zI (sl)), .ref ra])), ia G ra n K, ia G sa n S, ia G nx 290 (n1 S i)]) H := hP
  have hD : va_D A ([(ce, .inr (1, [.int (zI (dp)), .int (zI (br)), .int (zI (sl)), .ref ra])), ia G ra n K, ia G sa n S, ia G nx 290 (n1 S i)]) := hD
  have ih15 := ih
  refine lv_iload hx hb dX0_rankBySize_15 (lv_at hl 5 rfl) ?_
  refine lv_iload hx hb dX0_rankBySize_17 (lv_at hl 4 rfl) ?_
  refine z_icmp_ge (tgt := 44) hx hb dX0_rankBySize_19 (by decide) (by omega) (by omega) (fun h19 => ?_) (fun h19 => ?_)
  · skip
    have hi9 : i = ((n : Nat) : Int) := by omega
    rw [hi9] at hP hD
    refine z_iconst hx hb dX0_rankBySize_44 ?_
    refine lv_istore_n (lv' := [(3, .int (zI (1))), (0, .ref ce), (1, .ref sa), (2, .ref nx), (4, .int (zI (((n : Nat) : Int)))), (5, .int (zI (i)))]) hx hb dX0_rankBySize_45 rfl hl (by decide) rfl (fun ls hl => ?_)
    have hP : zP G ([(ce, .inr (1, [.int (zI (dp)), .int (zI (br)), .int (zI (sl)), .ref ra])), ia G ra n K, ia G sa n S, ia G nx 290 (n2 S ((n : Nat) : Int) 1)]) H := by rw [n2_1 (fun j h1 h2 => (hSb j h1 h2).1)]; exact hP
    have hD : va_D A ([(ce, .inr (1, [.int (zI (dp)), .int (zI (br)), .int (zI (sl)), .ref ra])), ia G ra n K, ia G sa n S, ia G nx 290 (n2 S ((n : Nat) : Int) 1)]) := by rw [n2_1 (fun j h1 h2 => (hSb j h1 h2).1)]; exact hD
    refine z_loopH (σ := Int × Array Slot) (fun zq => F0 m 46 (zq.2) []) (fun zq => (1 ≤ zq.1 ∧ zq.1 ≤ 289) ∧ lv_has (zq.2) 7 [(0, .ref ce), (1, .ref sa), (2, .ref nx), (3, .int (zI (zq.1)))]) (fun zq => [(ce, .inr (1, [.int (zI (dp)), .int (zI (br)), .int (zI (sl)), .ref ra])), ia G ra n K, ia G sa n S, ia G nx 290 (n2 S ((n : Nat) : Int) zq.1)]) (fun zq => (289 - zq.1).toNat) ?_ (1, ls) ⟨by refine ⟨?_, ?_⟩ <;> omega, lv_sub hl [1, 2, 3, 0] rfl⟩ hP hD hS
    intro zq H locs hq hP hD hS ih
    obtain ⟨z, ls⟩ := zq
    obtain ⟨hIz, hl⟩ := hq
    try dsimp only at hIz hl ih hP hD ⊢
    have hP : zP G ([(ce, .inr (1, [.int (zI (dp)), .int (zI (br)), .int (zI (sl)), .ref ra])), ia G ra n K, ia G sa n S, ia G nx 290 (n2 S ((n : Nat) : Int) z)]) H := hP
    have hD : va_D A ([(ce, .inr (1, [.int (zI (dp)), .int (zI (br)), .int (zI (sl)), .ref ra])), ia G ra n K, ia G sa n S, ia G nx 290 (n2 S ((n : Nat) : Int) z)]) := hD
    have ih46 := ih
    refine lv_iload_n hx hb dX0_rankBySize_46 rfl (lv_at hl 3 rfl) ?_
    refine z_sipush hx hb dX0_rankBySize_47 (by decide +kernel) ?_
    refine z_icmp_gt (tgt := 70) hx hb dX0_rankBySize_50 (by decide) (by omega) (by omega) (fun h50 => ?_) (fun h50 => ?_)
    · skip
      have hz9 : z = 289 := by omega
      rw [hz9, n3_0] at hP hD
      refine z_iconst hx hb dX0_rankBySize_70 ?_
      refine lv_istore_n (lv' := [(3, .int (zI (0))), (0, .ref ce), (1, .ref sa), (2, .ref nx)]) hx hb dX0_rankBySize_71 rfl hl (by decide) rfl (fun ls hl => ?_)
      have hP : zP G ([(ce, .inr (1, [.int (zI (dp)), .int (zI (br)), .int (zI (sl)), .ref ra])), ia G ra n (ZS K 0 0 (rkF S ((n : Nat) : Int))), ia G sa n S, ia G nx 290 (n3 S ((n : Nat) : Int) 0)]) H := by rw [ZS_0]; exact hP
      have hD : va_D A ([(ce, .inr (1, [.int (zI (dp)), .int (zI (br)), .int (zI (sl)), .ref ra])), ia G ra n (ZS K 0 0 (rkF S ((n : Nat) : Int))), ia G sa n S, ia G nx 290 (n3 S ((n : Nat) : Int) 0)]) := by rw [ZS_0]; exact hD
      refine z_loopH (σ := Int × Array Slot) (fun zq => F0 m 72 (zq.2) []) (fun zq => (0 ≤ zq.1 ∧ zq.1 ≤ ((n : Nat) : Int)) ∧ lv_has (zq.2) 7 [(0, .ref ce), (1, .ref sa), (2, .ref nx), (3, .int (zI (zq.1)))]) (fun zq => [(ce, .inr (1, [.int (zI (dp)), .int (zI (br)), .int (zI (sl)), .ref ra])), ia G ra n (ZS K 0 zq.1 (rkF S ((n : Nat) : Int))), ia G sa n S, ia G nx 290 (n3 S ((n : Nat) : Int) zq.1)]) (fun zq => (((n : Nat) : Int) - zq.1).toNat) ?_ (0, ls) ⟨by refine ⟨?_, ?_⟩ <;> omega, lv_sub hl [1, 2, 3, 0] rfl⟩ hP hD hS
      intro zq H locs hq hP hD hS ih
      obtain ⟨i2, ls⟩ := zq
      obtain ⟨hI3, hl⟩ := hq
      try dsimp only at hI3 hl ih hP hD ⊢
      have hP : zP G ([(ce, .inr (1, [.int (zI (dp)), .int (zI (br)), .int (zI (sl)), .ref ra])), ia G ra n (ZS K 0 i2 (rkF S ((n : Nat) : Int))), ia G sa n S, ia G nx 290 (n3 S ((n : Nat) : Int) i2)]) H := hP
      have hD : va_D A ([(ce, .inr (1, [.int (zI (dp)), .int (zI (br)), .int (zI (sl)), .ref ra])), ia G ra n (ZS K 0 i2 (rkF S ((n : Nat) : Int))), ia G sa n S, ia G nx 290 (n3 S ((n : Nat) : Int) i2)]) := hD
      have ih72 := ih
      refine lv_iload_n hx hb dX0_rankBySize_72 rfl (lv_at hl 3 rfl) ?_
      refine lv_aload_n hx hb dX0_rankBySize_73 rfl (lv_at hl 1 rfl) ?_
      refine z_alen hx hb hK hP 2 rfl dX0_rankBySize_74 ?_
      refine z_icmp_ge (tgt := 104) hx hb dX0_rankBySize_75 (by decide) (by omega) (by omega) (fun h75 => ?_) (fun h75 => ?_)
      · skip
        have hi9 : i2 = ((n : Nat) : Int) := by omega
        rw [hi9] at hP hD
        exact z_wrv () hx hb hr hlocks hK (hP.sub [0, 1, 2] rfl) (hD.sub [0, 1, 2] (by decide) rfl) hS (trivial) dX0_rankBySize_104
      · skip
        have hsi := hSb i2 (by omega) (by omega)
        refine lv_aload_n hx hb dX0_rankBySize_78 rfl (lv_at hl 0 rfl) ?_
        refine gf_X0_37 hx hb hT hown hK hP 0 rfl rfl dX0_rankBySize_79 ?_
        refine lv_iload_n hx hb dX0_rankBySize_82 rfl (lv_at hl 3 rfl) ?_
        refine lv_aload_n hx hb dX0_rankBySize_83 rfl (lv_at hl 2 rfl) ?_
        refine lv_aload_n hx hb dX0_rankBySize_84 rfl (lv_at hl 1 rfl) ?_
        refine lv_iload_n hx hb dX0_rankBySize_85 rfl (lv_at hl 3 rfl) ?_
        refine z_iald hx hb hK hP 2 rfl (⟨by omega, by omega, by omega⟩) dX0_rankBySize_86 ?_
        refine z_iald hx hb hK hP 3 rfl (⟨by omega, by omega, by omega⟩) dX0_rankBySize_87 ?_
        refine z_iast (ws' := [(ce, .inr (1, [.int (zI (dp)), .int (zI (br)), .int (zI (sl)), .ref ra])), ia G ra n (zu (ZS K 0 i2 (rkF S ((n : Nat) : Int))) i2 ((n3 S ((n : Nat) : Int) i2) (S i2))), ia G sa n S, ia G nx 290 (n3 S ((n : Nat) : Int) i2)]) hx hb hK hP hD hS 1 rfl (⟨by omega, by omega, by omega⟩) dX0_rankBySize_88 rfl (fun H locs hP hD hS => ?_)
        rw [show (zu (ZS K 0 i2 (rkF S ((n : Nat) : Int))) i2 ((n3 S ((n : Nat) : Int) i2) (S i2))) = (ZS K 0 (i2 + 1) (rkF S ((n : Nat) : Int))) from by rw [n3_at (by omega) (by omega)]; exact KP_s K _ (by omega)] at hP hD
        refine lv_aload_n hx hb dX0_rankBySize_89 rfl (lv_at hl 2 rfl) ?_
        refine lv_aload_n hx hb dX0_rankBySize_90 rfl (lv_at hl 1 rfl) ?_
        refine lv_iload_n hx hb dX0_rankBySize_91 rfl (lv_at hl 3 rfl) ?_
        refine z_iald hx hb hK hP 2 rfl (⟨by omega, by omega, by omega⟩) dX0_rankBySize_92 ?_
        refine lv_dup2_11 hx hb dX0_rankBySize_93 rfl rfl ?_
        refine z_iald hx hb hK hP 3 rfl (⟨by omega, by omega, by omega⟩) dX0_rankBySize_94 ?_
        refine z_iconst hx hb dX0_rankBySize_95 ?_
        refine z_iadd hx hb dX0_rankBySize_96 ?_
        refine z_iast (ws' := [(ce, .inr (1, [.int (zI (dp)), .int (zI (br)), .int (zI (sl)), .ref ra])), ia G ra n (ZS K 0 (i2 + 1) (rkF S ((n : Nat) : Int))), ia G sa n S, ia G nx 290 (zu (n3 S ((n : Nat) : Int) i2) (S i2) (((n3 S ((n : Nat) : Int) i2) (S i2)) + 1))]) hx hb hK hP hD hS 3 rfl (⟨by omega, by omega, by omega⟩) dX0_rankBySize_97 rfl (fun H locs hP hD hS => ?_)
        rw [show (zu (n3 S ((n : Nat) : Int) i2) (S i2) (((n3 S ((n : Nat) : Int) i2) (S i2)) + 1)) = (n3 S ((n : Nat) : Int) (i2 + 1)) from n3_s (by omega) (by omega)] at hP hD
        refine lv_iinc (v := zI (i2 + (1))) (lv' := [(3, .int (zI (i2 + (1)))), (0, .ref ce), (1, .ref sa), (2, .ref nx)]) hx hb dX0_rankBySize_98 hl (k := 3) rfl (zI_add _ _) (by decide) rfl (fun ls hl => ?_)
        refine z_goto (tgt := 72) hx hb dX0_rankBySize_101 (by decide) ?_
        exact ih72 (i2 + 1, ls) _ _ ⟨by refine ⟨?_, ?_⟩ <;> omega, lv_sub hl [1, 2, 3, 0] rfl⟩ (by omega) hP hD hS
    · skip
      refine lv_aload_n hx hb dX0_rankBySize_53 rfl (lv_at hl 2 rfl) ?_
      refine lv_iload_n hx hb dX0_rankBySize_54 rfl (lv_at hl 3 rfl) ?_
      refine lv_dup2_11 hx hb dX0_rankBySize_55 rfl rfl ?_
      refine z_iald hx hb hK hP 3 rfl (⟨by omega, by omega, by omega⟩) dX0_rankBySize_56 ?_
      refine lv_aload_n hx hb dX0_rankBySize_57 rfl (lv_at hl 2 rfl) ?_
      refine lv_iload_n hx hb dX0_rankBySize_58 rfl (lv_at hl 3 rfl) ?_
      refine z_iconst hx hb dX0_rankBySize_59 ?_
      refine z_isub hx hb dX0_rankBySize_60 ?_
      refine z_iald hx hb hK hP 3 rfl (⟨by omega, by omega, by omega⟩) dX0_rankBySize_61 ?_
      refine z_iadd hx hb dX0_rankBySize_62 ?_
      refine z_iast (ws' := [(ce, .inr (1, [.int (zI (dp)), .int (zI (br)), .int (zI (sl)), .ref ra])), ia G ra n K, ia G sa n S, ia G nx 290 (zu (n2 S ((n : Nat) : Int) z) z (((n2 S ((n : Nat) : Int) z) z) + ((n2 S ((n : Nat) : Int) z) (z - 1))))]) hx hb hK hP hD hS 3 rfl (⟨by omega, by omega, by omega⟩) dX0_rankBySize_63 rfl (fun H locs hP hD hS => ?_)
      rw [show (zu (n2 S ((n : Nat) : Int) z) z (((n2 S ((n : Nat) : Int) z) z) + ((n2 S ((n : Nat) : Int) z) (z - 1)))) = (n2 S ((n : Nat) : Int) (z + 1)) from n2_s S _] at hP hD
      refine lv_iinc (v := zI (z + (1))) (lv' := [(3, .int (zI (z + (1)))), (0, .ref ce), (1, .ref sa), (2, .ref nx)]) hx hb dX0_rankBySize_64 hl (k := 3) rfl (zI_add _ _) (by decide) rfl (fun ls hl => ?_)
      refine z_goto (tgt := 46) hx hb dX0_rankBySize_67 (by decide) ?_
      exact ih46 (z + 1, ls) _ _ ⟨by refine ⟨?_, ?_⟩ <;> omega, lv_sub hl [1, 2, 3, 0] rfl⟩ (by omega) hP hD hS
  · skip
    refine lv_aload_n hx hb dX0_rankBySize_22 rfl (lv_at hl 3 rfl) ?_
    refine lv_iload hx hb dX0_rankBySize_23 (lv_at hl 5 rfl) ?_
    refine z_iald hx hb hK hP 2 rfl (⟨by omega, by omega, by omega⟩) dX0_rankBySize_25 ?_
    have hsi := hSb i (by omega) (by omega)
    refine lv_istore (lv' := [(6, .int (zI ((S i)))), (0, .ref ce), (1, .ref sa), (2, .ref nx), (3, .ref sa), (4, .int (zI (((n : Nat) : Int)))), (5, .int (zI (i)))]) hx hb dX0_rankBySize_26 hl (by decide) rfl (fun ls hl => ?_)
    refine lv_aload_n hx hb dX0_rankBySize_28 rfl (lv_at hl 3 rfl) ?_
    refine lv_iload hx hb dX0_rankBySize_29 (lv_at hl 0 rfl) ?_
    refine z_iconst hx hb dX0_rankBySize_31 ?_
    refine z_iadd hx hb dX0_rankBySize_32 ?_
    refine lv_dup2_11 hx hb dX0_rankBySize_33 rfl rfl ?_
    refine z_iald hx hb hK hP 3 rfl (⟨by omega, by omega, by omega⟩) dX0_rankBySize_34 ?_
    refine z_iconst hx hb dX0_rankBySize_35 ?_
    refine z_iadd hx hb dX0_rankBySize_36 ?_
    refine z_iast (ws' := [(ce, .inr (1, [.int (zI (dp)), .int (zI (br)), .int (zI (sl)), .ref ra])), ia G ra n K, ia G sa n S, ia G nx 290 (zu (n1 S i) ((S i) + 1) (((n1 S i) ((S i) + 1)) + 1))]) hx hb hK hP hD hS 3 rfl (⟨by omega, by omega, by omega⟩) dX0_rankBySize_37 rfl (fun H locs hP hD hS => ?_)
    rw [show (zu (n1 S i) ((S i) + 1) (((n1 S i) ((S i) + 1)) + 1)) = (n1 S (i + 1)) from n1_s S (by omega)] at hP hD
    refine lv_iinc (v := zI (i + (1))) (lv' := [(5, .int (zI (i + (1)))), (6, .int (zI ((S i)))), (0, .ref ce), (1, .ref sa), (2, .ref nx), (3, .ref sa), (4, .int (zI (((n : Nat) : Int))))]) hx hb dX0_rankBySize_38 hl (k := 6) rfl (zI_add _ _) (by decide) rfl (fun ls hl => ?_)
    refine z_goto (tgt := 15) hx hb dX0_rankBySize_41 (by decide) ?_
    exact ih15 (i + 1, ls) _ _ ⟨by refine ⟨?_, ?_⟩ <;> omega, lv_sub hl [2, 3, 4, 5, 6, 0] rfl⟩ (by omega) hP hD hS

set_option maxHeartbeats 4000000 in
set_option maxRecDepth 100000 in
theorem c_X0_init (l : Launch) (G : zG) (ce : Nat) (a b : Int) (ha : 0 ≤ a ∧ a ≤ 12) (hb1 : -12 ≤ b ∧ b ≤ 12) (h0 : ¬ (a = 0 ∧ b = 0)) : zWv l yX0_init cX0_init 3 { frames := 3, cells := 3, slots := 890, locals := 69 } G [.ref ce, .int (zI (a)), .int (zI (b))] ([(ce, .inr (1, [.int (zI (0)), .int (zI (0)), .int (zI (0)), .null]))]) (S := Nat × (Int → Int)) (fun u => isM 288 ((((a * a + b * b).toNat : Nat)) : Int) (nmV (cdR a b 11) ((a * a + b * b) / (cdR a b 11)) (fiR a b (cdR a b 11) 25 % ((a * a + b * b) / (cdR a b 11)))) (full 12) u.2) (fun u => clL G ce u.1 (a * a + b * b).toNat (cdR a b 11) ((a * a + b * b) / (cdR a b 11)) (fiR a b (cdR a b 11) 25 % ((a * a + b * b) / (cdR a b 11))) (ZS (fun _ => 0) 0 ((((a * a + b * b).toNat : Nat)) : Int) (rkF u.2 ((((a * a + b * b).toNat : Nat)) : Int)))) := by
  intro sz
  refine Met.ofW (cc := cX0_init) (maxL := 3) (ret := none) (by decide) rfl ?_
  intro p e s m args below meth c s₁ B hml hv
  obtain ⟨rfl, hsz, hP, hK, hD0⟩ := hv
  have hx := B.exec
  have hb := B.bytes
  have hr := B.returns
  have hT : ∀ w ∈ TB, w.before _ s = true := fun w h => atoms_spec (ws := Cond.code yX0_init cX0_init 3 none :: TB) B.pre w (List.mem_cons_of_mem _ h)
  have hown : s.vm.findClass RX0 = some m.cls := findClass_of_methodNamed B.named
  have hlocks := B.notSynchronized
  have hin : meth.name = "<init>" := (name_of_methodNamed B.named B.method).1
  subst hsz
  have hD := hD0.self (sz := s.heap.size)
  generalize hAe : va_A ([(ce, .inr (1, [.int (zI (0)), .int (zI (0)), .int (zI (0)), .null]))]) s.heap.size = A at hD ⊢
  have hA : ∀ q : Nat, s.heap.size ≤ q → A q := fun q h => by rw [← hAe]; exact Or.inr h
  have hS : va_S A s.heap s.heap [] := va_S.rf
  have hP : zP G ([(ce, .inr (1, [.int (zI (0)), .int (zI (0)), .int (zI (0)), .null]))]) s.heap := hP
  have hD : va_D A ([(ce, .inr (1, [.int (zI (0)), .int (zI (0)), .int (zI (0)), .null]))]) := hD
  have hl := lv_entry ([.ref ce, .int (zI (a)), .int (zI (b))]) (n := 3) (Nat.le_of_ble_eq_true rfl)
  rw [lg_entry_eq]
  generalize (lg_sl ([.ref ce, .int (zI (a)), .int (zI (b))]) ++ List.replicate (3 - (lg_sl ([.ref ce, .int (zI (a)), .int (zI (b))])).length) Slot.unset).toArray = ls at hl ⊢
  have hl : lv_has ls 3 [(0, .ref ce), (1, .int (zI (a))), (2, .int (zI (b)))] := hl
  obtain ⟨hca, hfd, hfb, hfm, hfs, -⟩ := ceF_at ha hb1 h0
  have hss := sq_sum ha hb1 h0
  have hsl2 : 0 ≤ (fiR a b (cdR a b 11) 25 % ((a * a + b * b) / (cdR a b 11))) ∧ (fiR a b (cdR a b 11) 25 % ((a * a + b * b) / (cdR a b 11))) < ((a * a + b * b) / (cdR a b 11)) := ⟨Int.emod_nonneg _ (by omega), Int.emod_lt_of_pos _ (by omega)⟩
  refine lv_aload_n hx hb dX0_init_0 rfl (lv_at hl 0 rfl) ?_
  refine W.objInit hx hb hown (hT _ (mT 437 (by decide +kernel) rfl)) (hT _ (mT 50 (by decide +kernel) rfl)) (hT _ (mT 51 (by decide +kernel) rfl)) rfl (by rw [hml]; exact hl.1) rfl dX0_init_1 (Nat.le_of_ble_eq_true rfl) (Nat.le_of_ble_eq_true rfl) ?_
  refine W.eq (g2 := F0 m 4 ls []) rfl ?_
  refine lv_aload_n hx hb dX0_init_4 rfl (lv_at hl 0 rfl) ?_
  refine lv_iload_n hx hb dX0_init_5 rfl (lv_at hl 1 rfl) ?_
  refine lv_iload_n hx hb dX0_init_6 rfl (lv_at hl 2 rfl) ?_
  refine z_callS (G := G) (As := [.int (zI (a)), .int (zI (b))]) (rest := [.ref ce]) hx hb hml hown hT hK (c_X0_commonDivisor l G (a) (b) (by omega) (by omega)) kc_X0_9 ⟨Nat.le_of_ble_eq_true rfl, Nat.le_of_ble_eq_true rfl⟩ ⟨rfl, rfl⟩ ⟨Nat.le_of_ble_eq_true rfl, Nat.le_of_ble_eq_true rfl⟩ (hP.sub [] rfl) rfl hl.1 rfl (Nat.le_of_ble_eq_true rfl) dX0_init_7 ?_
  refine pf_X0_15 (ws' := [(ce, .inr (1, [.int (zI ((cdR a b 11))), .int (zI (0)), .int (zI (0)), .null]))]) hx hb hT hown hin hK hP hD hS 0 rfl (Nat.le_of_ble_eq_true rfl) rfl rfl rfl dX0_init_10 (fun H locs hP hD hS => ?_)
  refine lv_aload_n hx hb dX0_init_13 rfl (lv_at hl 0 rfl) ?_
  refine z_iconst hx hb dX0_init_14 ?_
  refine lv_iload_n hx hb dX0_init_15 rfl (lv_at hl 1 rfl) ?_
  refine lv_iload_n hx hb dX0_init_16 rfl (lv_at hl 1 rfl) ?_
  refine z_imul hx hb dX0_init_17 ?_
  refine lv_iload_n hx hb dX0_init_18 rfl (lv_at hl 2 rfl) ?_
  refine lv_iload_n hx hb dX0_init_19 rfl (lv_at hl 2 rfl) ?_
  refine z_imul hx hb dX0_init_20 ?_
  refine z_iadd hx hb dX0_init_21 ?_
  refine lv_aload_n hx hb dX0_init_22 rfl (lv_at hl 0 rfl) ?_
  refine gf_X0_15 hx hb hT hown hK hP 0 rfl rfl dX0_init_23 ?_
  refine z_idiv hx hb dX0_init_26 (by omega) (by omega) ?_
  refine z_mmax hx hb hml hl.1 hown hT kc_X0_19 ⟨Nat.le_of_ble_eq_true rfl, Nat.le_of_ble_eq_true rfl⟩ ⟨Nat.le_of_ble_eq_true rfl, Nat.le_of_ble_eq_true rfl⟩ (by omega) (by omega) dX0_init_27 ?_
  refine z_top (((a * a + b * b) / (cdR a b 11))) (by omega) ?_
  refine pf_X0_24 (ws' := [(ce, .inr (1, [.int (zI ((cdR a b 11))), .int (zI (((a * a + b * b) / (cdR a b 11)))), .int (zI (0)), .null]))]) hx hb hT hown hin hK hP hD hS 0 rfl (Nat.le_of_ble_eq_true rfl) rfl rfl rfl dX0_init_30 (fun H locs hP hD hS => ?_)
  refine lv_aload_n hx hb dX0_init_33 rfl (lv_at hl 0 rfl) ?_
  refine lv_iload_n hx hb dX0_init_34 rfl (lv_at hl 1 rfl) ?_
  refine lv_iload_n hx hb dX0_init_35 rfl (lv_at hl 2 rfl) ?_
  refine lv_aload_n hx hb dX0_init_36 rfl (lv_at hl 0 rfl) ?_
  refine gf_X0_15 hx hb hT hown hK hP 0 rfl rfl dX0_init_37 ?_
  refine z_callS (G := G) (As := [.int (zI (a)), .int (zI (b)), .int (zI ((cdR a b 11)))]) (rest := [.ref ce]) hx hb hml hown hT hK (c_X0_sideways l G (a) (b) ((cdR a b 11)) (by omega) (by omega) (by omega)) kc_X0_27 ⟨Nat.le_of_ble_eq_true rfl, Nat.le_of_ble_eq_true rfl⟩ ⟨rfl, rfl⟩ ⟨Nat.le_of_ble_eq_true rfl, Nat.le_of_ble_eq_true rfl⟩ (hP.sub [] rfl) rfl hl.1 rfl (Nat.le_of_ble_eq_true rfl) dX0_init_40 ?_
  refine lv_aload_n hx hb dX0_init_43 rfl (lv_at hl 0 rfl) ?_
  refine gf_X0_24 hx hb hT hown hK hP 0 rfl rfl dX0_init_44 ?_
  refine z_callS (G := G) (As := [.int (zI ((fiR a b (cdR a b 11) 25))), .int (zI (((a * a + b * b) / (cdR a b 11))))]) (rest := [.ref ce]) hx hb hml hown hT hK (c_J9_floorMod_7cf53 l G ((fiR a b (cdR a b 11) 25)) (((a * a + b * b) / (cdR a b 11))) (by omega) (by omega)) kc_X0_31 ⟨Nat.le_of_ble_eq_true rfl, Nat.le_of_ble_eq_true rfl⟩ ⟨rfl, rfl⟩ ⟨Nat.le_of_ble_eq_true rfl, Nat.le_of_ble_eq_true rfl⟩ (hP.sub [] rfl) rfl hl.1 rfl (Nat.le_of_ble_eq_true rfl) dX0_init_47 ?_
  refine pf_X0_34 (ws' := [(ce, .inr (1, [.int (zI ((cdR a b 11))), .int (zI (((a * a + b * b) / (cdR a b 11)))), .int (zI (((fiR a b (cdR a b 11) 25) % ((a * a + b * b) / (cdR a b 11))))), .null]))]) hx hb hT hown hin hK hP hD hS 0 rfl (Nat.le_of_ble_eq_true rfl) rfl rfl rfl dX0_init_50 (fun H locs hP hD hS => ?_)
  refine lv_aload_n hx hb dX0_init_53 rfl (lv_at hl 0 rfl) ?_
  refine lv_aload_n hx hb dX0_init_54 rfl (lv_at hl 0 rfl) ?_
  refine gf_X0_15 hx hb hT hown hK hP 0 rfl rfl dX0_init_55 ?_
  refine lv_aload_n hx hb dX0_init_58 rfl (lv_at hl 0 rfl) ?_
  refine gf_X0_24 hx hb hT hown hK hP 0 rfl rfl dX0_init_59 ?_
  refine z_imul hx hb dX0_init_62 ?_
  refine z_newa hx hb hT hK hP hD hS hA (N := (a * a + b * b).toNat) (by omega) (Nat.le_of_ble_eq_true rfl) (by show 0 + _ ≤ 890; omega) dX0_init_63 (fun ra H hP hD hS => ?_)
  have hP : zP G ([(ce, .inr (1, [.int (zI ((cdR a b 11))), .int (zI (((a * a + b * b) / (cdR a b 11)))), .int (zI (((fiR a b (cdR a b 11) 25) % ((a * a + b * b) / (cdR a b 11))))), .null])), ia G ra ((a * a + b * b).toNat) (fun _ => 0)]) H := hP
  have hD : va_D A ([(ce, .inr (1, [.int (zI ((cdR a b 11))), .int (zI (((a * a + b * b) / (cdR a b 11)))), .int (zI (((fiR a b (cdR a b 11) 25) % ((a * a + b * b) / (cdR a b 11))))), .null])), ia G ra ((a * a + b * b).toNat) (fun _ => 0)]) := hD
  refine W.widen (k := 1) (n := 300) (Nat.le_of_ble_eq_true rfl) (by omega) ?_
  refine pf_X0_37 (ws' := [(ce, .inr (1, [.int (zI ((cdR a b 11))), .int (zI (((a * a + b * b) / (cdR a b 11)))), .int (zI (((fiR a b (cdR a b 11) 25) % ((a * a + b * b) / (cdR a b 11))))), .ref ra])), ia G ra ((a * a + b * b).toNat) (fun _ => 0)]) hx hb hT hown hin hK hP hD hS 0 rfl (Nat.le_of_ble_eq_true rfl) rfl rfl rfl dX0_init_65 (fun H locs hP hD hS => ?_)
  refine lv_aload_n hx hb dX0_init_68 rfl (lv_at hl 0 rfl) ?_
  refine lv_aload_n hx hb dX0_init_69 rfl (lv_at hl 0 rfl) ?_
  refine z_wVr (q0 := 0) (G := G) (X := [(ce, .inr (1, [.int (zI ((cdR a b 11))), .int (zI (((a * a + b * b) / (cdR a b 11)))), .int (zI (((fiR a b (cdR a b 11) 25) % ((a * a + b * b) / (cdR a b 11))))), .ref ra])), ia G ra ((a * a + b * b).toNat) (fun _ => 0)]) (pl := []) (As := []) (rest := [.ref ce]) hx hb hml hown hT hK (c_X0_leastSizes l G ce ra (a * a + b * b).toNat (cdR a b 11) ((a * a + b * b) / (cdR a b 11)) (fiR a b (cdR a b 11) 25 % ((a * a + b * b) / (cdR a b 11))) (fun _ => 0) hfd hfb hsl2 (by omega) (by omega)) kc_X0_41 ⟨Nat.le_of_ble_eq_true rfl, Nat.le_of_ble_eq_true rfl⟩ ⟨Nat.le_of_ble_eq_true rfl, Nat.le_of_ble_eq_true rfl⟩ hP hD hS hA [0, 1] [] (wr := []) rfl rfl rfl rfl (by decide) rfl rfl rfl rfl hl.1 rfl (Nat.le_of_ble_eq_true rfl) dX0_init_70 (fun u9 H locs hok9 hP hD hS => ?_)
  obtain ⟨sa, S⟩ := u9
  have hP : zP G ([(ce, .inr (1, [.int (zI ((cdR a b 11))), .int (zI (((a * a + b * b) / (cdR a b 11)))), .int (zI (((fiR a b (cdR a b 11) 25) % ((a * a + b * b) / (cdR a b 11))))), .ref ra])), ia G ra ((a * a + b * b).toNat) (fun _ => 0), ia G sa ((a * a + b * b).toNat) S]) H := hP
  have hD : va_D A ([(ce, .inr (1, [.int (zI ((cdR a b 11))), .int (zI (((a * a + b * b) / (cdR a b 11)))), .int (zI (((fiR a b (cdR a b 11) 25) % ((a * a + b * b) / (cdR a b 11))))), .ref ra])), ia G ra ((a * a + b * b).toNat) (fun _ => 0), ia G sa ((a * a + b * b).toNat) S]) := hD
  refine W.widen (k := 2) (n := 600) (Nat.le_of_ble_eq_true rfl) (Nat.le_of_ble_eq_true rfl) ?_
  have hokS := hok9
  refine z_wVv (q0 := 0) (G := G) (X := [(ce, .inr (1, [.int (zI ((cdR a b 11))), .int (zI (((a * a + b * b) / (cdR a b 11)))), .int (zI (((fiR a b (cdR a b 11) 25) % ((a * a + b * b) / (cdR a b 11))))), .ref ra])), ia G ra ((a * a + b * b).toNat) (fun _ => 0), ia G sa ((a * a + b * b).toNat) S]) (pl := []) (As := [.ref sa]) (rest := []) hx hb hml hown hT hK (c_X0_rankBySize l G ce ra (a * a + b * b).toNat (cdR a b 11) ((a * a + b * b) / (cdR a b 11)) (fiR a b (cdR a b 11) 25 % ((a * a + b * b) / (cdR a b 11))) (fun _ => 0) sa S (by omega) (fun j h1 h2 => ⟨(hok9 j h1 h2).2.1, (hok9 j h1 h2).1⟩)) kc_X0_45 ⟨Nat.le_of_ble_eq_true rfl, Nat.le_of_ble_eq_true rfl⟩ ⟨Nat.le_of_ble_eq_true rfl, Nat.le_of_ble_eq_true rfl⟩ hP hD hS hA [0, 1, 2] [] (wr := []) rfl rfl rfl rfl (by decide) rfl rfl rfl rfl hl.1 rfl (Nat.le_of_ble_eq_true rfl) dX0_init_73 (fun u9 H locs hok9 hP hD hS => ?_)
  have hP : zP G ([(ce, .inr (1, [.int (zI ((cdR a b 11))), .int (zI (((a * a + b * b) / (cdR a b 11)))), .int (zI (((fiR a b (cdR a b 11) 25) % ((a * a + b * b) / (cdR a b 11))))), .ref ra])), ia G ra ((a * a + b * b).toNat) (ZS (fun _ => 0) 0 (((a * a + b * b).toNat : Nat) : Int) (rkF S (((a * a + b * b).toNat : Nat) : Int))), ia G sa ((a * a + b * b).toNat) S]) H := hP
  have hD : va_D A ([(ce, .inr (1, [.int (zI ((cdR a b 11))), .int (zI (((a * a + b * b) / (cdR a b 11)))), .int (zI (((fiR a b (cdR a b 11) 25) % ((a * a + b * b) / (cdR a b 11))))), .ref ra])), ia G ra ((a * a + b * b).toNat) (ZS (fun _ => 0) 0 (((a * a + b * b).toNat : Nat) : Int) (rkF S (((a * a + b * b).toNat : Nat) : Int))), ia G sa ((a * a + b * b).toNat) S]) := hD
  refine W.widen (k := 3) (n := 890) (Nat.le_of_ble_eq_true rfl) (Nat.le_of_ble_eq_true rfl) ?_
  exact z_wrv (ra, S) hx hb hr hlocks hK (hP.sub [0, 1] rfl) (hD.sub [0, 1] (by decide) rfl) hS (hokS) dX0_init_76
