/-! ===== SeparateScreens: its cells but the screens' ===== -/
abbrev aq (G : zG) (a n : Nat) (F : Nat → Option Nat) : Nat × va_E := (a, .inl (G.2.2.1, n, .inr (.inr (.inr (.inr F)))))
abbrev xL (G : zG) (xx pg ik mx co pa cv ca cb ar : Nat) (nx w h pts cnt most rch : Int) (M C P : Int → Int) (cc : Int) (L V : Int → Int) (F : Nat → Option Nat) : va_W := [(xx, .inr (5, [.ref pg, .ref cv, .ref ar, .int (zI nx)])), (pg, .inr (4, [.int (zI w), .int (zI h), .int (zI pts), .ref ik, .ref pa, .int (zI most), .int (zI rch)])), (ik, .inr (3, [.ref mx, .ref co, .int (zI cnt)])), ia G pa (8 * pts).toNat P, ia G mx 32 M, ia G co 8 C, (cv, .inr (2, [.ref ca, .ref cb, .int (zI cc)])), ia G ca 12 L, ia G cb 12 V, aq G ar 6 F]

set_option maxHeartbeats 4000000 in
set_option maxRecDepth 100000 in
theorem c_X4_checkInk (l : Launch) (hst : l.stackTraces = false) (G : zG) (xx pg ik mx co pa cv ca cb ar : Nat) (nx w h pts cnt most rch : Int) (M C P : Int → Int) (cc : Int) (L V : Int → Int) (F : Nat → Option Nat) (k : Int) (hp : pgOK w h pts cnt most rch M C P) (hvv : cvOK cc L V) (hnx : 0 ≤ nx ∧ nx ≤ 6) (hk : -2147483648 ≤ k ∧ k ≤ 2147483647) : zXt l yX4_checkInk cX4_checkInk 2 { frames := 7, cells := 1, slots := 6, locals := 95 } G [.ref xx, .int (zI (k))] (xL G xx pg ik mx co pa cv ca cb ar nx w h pts cnt most rch M C P cc L V F) (0 ≤ k ∧ k < cnt) (fun E => E = "java/lang/ArrayIndexOutOfBoundsException" ∧ ¬ (0 ≤ k ∧ k < cnt)) := by
  intro sz
  refine vx_ofW (cc := cX4_checkInk) (maxL := 2) (ret := none) (by decide) rfl ?_
  intro p e s m args below meth c s₁ B hml htab hv
  obtain ⟨rfl, hsz, hP, hK, hD0, hX⟩ := hv
  have hx := B.exec
  have hb := B.bytes
  have hr := B.returns
  have hT : ∀ w ∈ TB, w.before _ s = true := fun w h => atoms_spec (ws := Cond.code yX4_checkInk cX4_checkInk 2 none :: TB) B.pre w (List.mem_cons_of_mem _ h)
  have hown : s.vm.findClass RX4 = some m.cls := findClass_of_methodNamed B.named
  have hlocks := B.notSynchronized
  subst hsz
  have hD := hD0.self (sz := s.heap.size)
  generalize hAe : va_A (xL G xx pg ik mx co pa cv ca cb ar nx w h pts cnt most rch M C P cc L V F) s.heap.size = A at hD hX ⊢
  have hA : ∀ q : Nat, s.heap.size ≤ q → A q := fun q h => by rw [← hAe]; exact Or.inr h
  have hS : va_S A s.heap s.heap [] := va_S.rf
  have hsub : ∀ q, va_A (xL G xx pg ik mx co pa cv ca cb ar nx w h pts cnt most rch M C P cc L V F) s.heap.size q → A q := fun q h => by rw [← hAe]; exact h
  have hP : zP G (xL G xx pg ik mx co pa cv ca cb ar nx w h pts cnt most rch M C P cc L V F) s.heap := hP
  have hD : va_D A (xL G xx pg ik mx co pa cv ca cb ar nx w h pts cnt most rch M C P cc L V F) := hD
  have hl := lv_entry ([.ref xx, .int (zI (k))]) (n := 2) (Nat.le_of_ble_eq_true rfl)
  rw [lg_entry_eq]
  generalize (lg_sl ([.ref xx, .int (zI (k))]) ++ List.replicate (2 - (lg_sl ([.ref xx, .int (zI (k))])).length) Slot.unset).toArray = ls at hl ⊢
  have hl : lv_has ls 2 [(0, .ref xx), (1, .int (zI (k)))] := hl
  obtain ⟨hw, hh, hpts, hcnt, hmost, hrch, hM, hC, hB⟩ := id hp
  have hpt := pgOK_pts hp
  obtain ⟨hcc, hL0, hLe, hLs, hLb, hVb⟩ := id hvv
  refine lv_iload_n hx hb dX4_checkInk_0 rfl (lv_at hl 1 rfl) ?_
  refine z_if_lt (tgt := 18) hx hb dX4_checkInk_1 (by decide) (by omega) (fun h1 => ?_) (fun h1 => ?_)
  · skip
    exact z_throw (text := "there is no such ink") hx hb hst hown hT hX kt_AIO (by decide +kernel) hml hl.1 htab hlocks dX4_checkInk_18 dX4_checkInk_21 dX4_checkInk_22 dX4_checkInk_24 dX4_checkInk_27 (Nat.le_of_ble_eq_true rfl) (Nat.le_of_ble_eq_true rfl) ⟨Nat.le_of_ble_eq_true rfl, Nat.le_of_ble_eq_true rfl⟩ (Nat.le_of_ble_eq_true rfl) (Nat.le_of_ble_eq_true rfl) (⟨rfl, by omega⟩)
  · skip
    refine lv_iload_n hx hb dX4_checkInk_4 rfl (lv_at hl 1 rfl) ?_
    refine lv_aload_n hx hb dX4_checkInk_5 rfl (lv_at hl 0 rfl) ?_
    refine gf_X4_23 hx hb hT hown hK hP 0 rfl rfl dX4_checkInk_6 ?_
    refine gf_X4_55 hx hb hT hown hK hP 1 rfl rfl dX4_checkInk_9 ?_
    refine gf_X4_59 hx hb hT hown hK hP 2 rfl rfl dX4_checkInk_12 ?_
    refine z_icmp_lt (tgt := 28) hx hb dX4_checkInk_15 (by decide) (by omega) (by omega) (fun h15 => ?_) (fun h15 => ?_)
    · skip
      exact z_tret hx hb hr hlocks (by omega) dX4_checkInk_28 (Nat.le_of_ble_eq_true rfl) (Nat.le_of_ble_eq_true rfl)
    · skip
      exact z_throw (text := "there is no such ink") hx hb hst hown hT hX kt_AIO (by decide +kernel) hml hl.1 htab hlocks dX4_checkInk_18 dX4_checkInk_21 dX4_checkInk_22 dX4_checkInk_24 dX4_checkInk_27 (Nat.le_of_ble_eq_true rfl) (Nat.le_of_ble_eq_true rfl) ⟨Nat.le_of_ble_eq_true rfl, Nat.le_of_ble_eq_true rfl⟩ (Nat.le_of_ble_eq_true rfl) (Nat.le_of_ble_eq_true rfl) (⟨rfl, by omega⟩)

set_option maxHeartbeats 4000000 in
set_option maxRecDepth 100000 in
theorem c_X4_checkPoint (l : Launch) (hst : l.stackTraces = false) (G : zG) (xx pg ik mx co pa cv ca cb ar : Nat) (nx w h pts cnt most rch : Int) (M C P : Int → Int) (cc : Int) (L V : Int → Int) (F : Nat → Option Nat) (x y : Int) (hp : pgOK w h pts cnt most rch M C P) (hvv : cvOK cc L V) (hnx : 0 ≤ nx ∧ nx ≤ 6) (hx : -2147483648 ≤ x ∧ x ≤ 2147483647) (hy : -2147483648 ≤ y ∧ y ≤ 2147483647) : zXt l yX4_checkPoint cX4_checkPoint 3 { frames := 7, cells := 1, slots := 6, locals := 95 } G [.ref xx, .int (zI (x)), .int (zI (y))] (xL G xx pg ik mx co pa cv ca cb ar nx w h pts cnt most rch M C P cc L V F) ((0 ≤ x ∧ x < w) ∧ (0 ≤ y ∧ y < h)) (fun E => E = "java/lang/ArrayIndexOutOfBoundsException" ∧ ¬ ((0 ≤ x ∧ x < w) ∧ (0 ≤ y ∧ y < h))) := by
  intro sz
  refine vx_ofW (cc := cX4_checkPoint) (maxL := 3) (ret := none) (by decide) rfl ?_
  intro p e s m args below meth c s₁ B hml htab hv
  obtain ⟨rfl, hsz, hP, hK, hD0, hX⟩ := hv
  have hx := B.exec
  have hb := B.bytes
  have hr := B.returns
  have hT : ∀ w ∈ TB, w.before _ s = true := fun w h => atoms_spec (ws := Cond.code yX4_checkPoint cX4_checkPoint 3 none :: TB) B.pre w (List.mem_cons_of_mem _ h)
  have hown : s.vm.findClass RX4 = some m.cls := findClass_of_methodNamed B.named
  have hlocks := B.notSynchronized
  subst hsz
  have hD := hD0.self (sz := s.heap.size)
  generalize hAe : va_A (xL G xx pg ik mx co pa cv ca cb ar nx w h pts cnt most rch M C P cc L V F) s.heap.size = A at hD hX ⊢
  have hA : ∀ q : Nat, s.heap.size ≤ q → A q := fun q h => by rw [← hAe]; exact Or.inr h
  have hS : va_S A s.heap s.heap [] := va_S.rf
  have hsub : ∀ q, va_A (xL G xx pg ik mx co pa cv ca cb ar nx w h pts cnt most rch M C P cc L V F) s.heap.size q → A q := fun q h => by rw [← hAe]; exact h
  have hP : zP G (xL G xx pg ik mx co pa cv ca cb ar nx w h pts cnt most rch M C P cc L V F) s.heap := hP
  have hD : va_D A (xL G xx pg ik mx co pa cv ca cb ar nx w h pts cnt most rch M C P cc L V F) := hD
  have hl := lv_entry ([.ref xx, .int (zI (x)), .int (zI (y))]) (n := 3) (Nat.le_of_ble_eq_true rfl)
  rw [lg_entry_eq]
  generalize (lg_sl ([.ref xx, .int (zI (x)), .int (zI (y))]) ++ List.replicate (3 - (lg_sl ([.ref xx, .int (zI (x)), .int (zI (y))])).length) Slot.unset).toArray = ls at hl ⊢
  have hl : lv_has ls 3 [(0, .ref xx), (1, .int (zI (x))), (2, .int (zI (y)))] := hl
  obtain ⟨hw, hh, hpts, hcnt, hmost, hrch, hM, hC, hB⟩ := id hp
  have hpt := pgOK_pts hp
  obtain ⟨hcc, hL0, hLe, hLs, hLb, hVb⟩ := id hvv
  refine lv_iload_n hx hb dX4_checkPoint_0 rfl (lv_at hl 1 rfl) ?_
  refine z_if_lt (tgt := 30) hx hb dX4_checkPoint_1 (by decide) (by omega) (fun h1 => ?_) (fun h1 => ?_)
  · skip
    exact z_throw (text := "there is no such point") hx hb hst hown hT hX kt_AIO (by decide +kernel) hml hl.1 htab hlocks dX4_checkPoint_30 dX4_checkPoint_33 dX4_checkPoint_34 dX4_checkPoint_36 dX4_checkPoint_39 (Nat.le_of_ble_eq_true rfl) (Nat.le_of_ble_eq_true rfl) ⟨Nat.le_of_ble_eq_true rfl, Nat.le_of_ble_eq_true rfl⟩ (Nat.le_of_ble_eq_true rfl) (Nat.le_of_ble_eq_true rfl) (⟨rfl, by omega⟩)
  · skip
    refine lv_iload_n hx hb dX4_checkPoint_4 rfl (lv_at hl 1 rfl) ?_
    refine lv_aload_n hx hb dX4_checkPoint_5 rfl (lv_at hl 0 rfl) ?_
    refine gf_X4_23 hx hb hT hown hK hP 0 rfl rfl dX4_checkPoint_6 ?_
    refine gf_X4_83 hx hb hT hown hK hP 1 rfl rfl dX4_checkPoint_9 ?_
    refine z_icmp_ge (tgt := 30) hx hb dX4_checkPoint_12 (by decide) (by omega) (by omega) (fun h12 => ?_) (fun h12 => ?_)
    · skip
      exact z_throw (text := "there is no such point") hx hb hst hown hT hX kt_AIO (by decide +kernel) hml hl.1 htab hlocks dX4_checkPoint_30 dX4_checkPoint_33 dX4_checkPoint_34 dX4_checkPoint_36 dX4_checkPoint_39 (Nat.le_of_ble_eq_true rfl) (Nat.le_of_ble_eq_true rfl) ⟨Nat.le_of_ble_eq_true rfl, Nat.le_of_ble_eq_true rfl⟩ (Nat.le_of_ble_eq_true rfl) (Nat.le_of_ble_eq_true rfl) (⟨rfl, by omega⟩)
    · skip
      refine lv_iload_n hx hb dX4_checkPoint_15 rfl (lv_at hl 2 rfl) ?_
      refine z_if_lt (tgt := 30) hx hb dX4_checkPoint_16 (by decide) (by omega) (fun h16 => ?_) (fun h16 => ?_)
      · skip
        exact z_throw (text := "there is no such point") hx hb hst hown hT hX kt_AIO (by decide +kernel) hml hl.1 htab hlocks dX4_checkPoint_30 dX4_checkPoint_33 dX4_checkPoint_34 dX4_checkPoint_36 dX4_checkPoint_39 (Nat.le_of_ble_eq_true rfl) (Nat.le_of_ble_eq_true rfl) ⟨Nat.le_of_ble_eq_true rfl, Nat.le_of_ble_eq_true rfl⟩ (Nat.le_of_ble_eq_true rfl) (Nat.le_of_ble_eq_true rfl) (⟨rfl, by omega⟩)
      · skip
        refine lv_iload_n hx hb dX4_checkPoint_19 rfl (lv_at hl 2 rfl) ?_
        refine lv_aload_n hx hb dX4_checkPoint_20 rfl (lv_at hl 0 rfl) ?_
        refine gf_X4_23 hx hb hT hown hK hP 0 rfl rfl dX4_checkPoint_21 ?_
        refine gf_X4_86 hx hb hT hown hK hP 1 rfl rfl dX4_checkPoint_24 ?_
        refine z_icmp_lt (tgt := 40) hx hb dX4_checkPoint_27 (by decide) (by omega) (by omega) (fun h27 => ?_) (fun h27 => ?_)
        · skip
          exact z_tret hx hb hr hlocks (by omega) dX4_checkPoint_40 (Nat.le_of_ble_eq_true rfl) (Nat.le_of_ble_eq_true rfl)
        · skip
          exact z_throw (text := "there is no such point") hx hb hst hown hT hX kt_AIO (by decide +kernel) hml hl.1 htab hlocks dX4_checkPoint_30 dX4_checkPoint_33 dX4_checkPoint_34 dX4_checkPoint_36 dX4_checkPoint_39 (Nat.le_of_ble_eq_true rfl) (Nat.le_of_ble_eq_true rfl) ⟨Nat.le_of_ble_eq_true rfl, Nat.le_of_ble_eq_true rfl⟩ (Nat.le_of_ble_eq_true rfl) (Nat.le_of_ble_eq_true rfl) (⟨rfl, by omega⟩)

set_option maxHeartbeats 4000000 in
set_option maxRecDepth 100000 in
theorem c_X4_limit (l : Launch) (hst : l.stackTraces = false) (G : zG) (xx pg ik mx co pa cv ca cb ar : Nat) (nx w h pts cnt most rch : Int) (M C P : Int → Int) (cc : Int) (L V : Int → Int) (F : Nat → Option Nat) (v : Int) (hp : pgOK w h pts cnt most rch M C P) (hvv : cvOK cc L V) (hnx : 0 ≤ nx ∧ nx ≤ 6) (hv : -2147483648 ≤ v ∧ v ≤ 2147483647) : zXi l yX4_limit cX4_limit 3 (some .int) { frames := 6, cells := 1, slots := 6, locals := 82 } G [.ref xx, .int (zI (v))] (xL G xx pg ik mx co pa cv ca cb ar nx w h pts cnt most rch M C P cc L V F) (S := Unit) (fun u => most) (fun u => cLim v = 0) (fun u => xL G xx pg ik mx co pa cv ca cb ar nx w h pts cnt v rch M C P cc L V F) (fun E => E = "java/lang/IllegalArgumentException" ∧ cLim v = 1) := by
  intro sz
  refine vx_ofW (cc := cX4_limit) (maxL := 3) (ret := (some .int)) (by decide) rfl ?_
  intro p e s m args below meth c s₁ B hml htab hv
  obtain ⟨rfl, hsz, hP, hK, hD0, hX⟩ := hv
  have hx := B.exec
  have hb := B.bytes
  have hr := B.returns
  have hT : ∀ w ∈ TB, w.before _ s = true := fun w h => atoms_spec (ws := Cond.code yX4_limit cX4_limit 3 (some .int) :: TB) B.pre w (List.mem_cons_of_mem _ h)
  have hown : s.vm.findClass RX4 = some m.cls := findClass_of_methodNamed B.named
  have hlocks := B.notSynchronized
  subst hsz
  have hD := hD0.self (sz := s.heap.size)
  generalize hAe : va_A (xL G xx pg ik mx co pa cv ca cb ar nx w h pts cnt most rch M C P cc L V F) s.heap.size = A at hD hX ⊢
  have hA : ∀ q : Nat, s.heap.size ≤ q → A q := fun q h => by rw [← hAe]; exact Or.inr h
  have hS : va_S A s.heap s.heap [] := va_S.rf
  have hsub : ∀ q, va_A (xL G xx pg ik mx co pa cv ca cb ar nx w h pts cnt most rch M C P cc L V F) s.heap.size q → A q := fun q h => by rw [← hAe]; exact h
  have hP : zP G (xL G xx pg ik mx co pa cv ca cb ar nx w h pts cnt most rch M C P cc L V F) s.heap := hP
  have hD : va_D A (xL G xx pg ik mx co pa cv ca cb ar nx w h pts cnt most rch M C P cc L V F) := hD
  have hl := lv_entry ([.ref xx, .int (zI (v))]) (n := 3) (Nat.le_of_ble_eq_true rfl)
  rw [lg_entry_eq]
  generalize (lg_sl ([.ref xx, .int (zI (v))]) ++ List.replicate (3 - (lg_sl ([.ref xx, .int (zI (v))])).length) Slot.unset).toArray = ls at hl ⊢
  have hl : lv_has ls 3 [(0, .ref xx), (1, .int (zI (v)))] := hl
  obtain ⟨hw, hh, hpts, hcnt, hmost, hrch, hM, hC, hB⟩ := id hp
  have hpt := pgOK_pts hp
  obtain ⟨hcc, hL0, hLe, hLs, hLb, hVb⟩ := id hvv
  refine lv_iload_n hx hb dX4_limit_0 rfl (lv_at hl 1 rfl) ?_
  refine z_if_lt (tgt := 11) hx hb dX4_limit_1 (by decide) (by omega) (fun h1 => ?_) (fun h1 => ?_)
  · skip
    exact z_throw (text := "a limit is 0 to 2040") hx hb hst hown hT hX kt_IAE (by decide +kernel) hml hl.1 htab hlocks dX4_limit_11 dX4_limit_14 dX4_limit_15 dX4_limit_17 dX4_limit_20 (Nat.le_of_ble_eq_true rfl) (Nat.le_of_ble_eq_true rfl) ⟨Nat.le_of_ble_eq_true rfl, Nat.le_of_ble_eq_true rfl⟩ (Nat.le_of_ble_eq_true rfl) (Nat.le_of_ble_eq_true rfl) (⟨rfl, if_pos (by omega)⟩)
  · skip
    refine lv_iload_n hx hb dX4_limit_4 rfl (lv_at hl 1 rfl) ?_
    refine z_sipush hx hb dX4_limit_5 (by decide +kernel) ?_
    refine z_icmp_le (tgt := 21) hx hb dX4_limit_8 (by decide) (by omega) (by omega) (fun h8 => ?_) (fun h8 => ?_)
    · skip
      refine lv_aload_n hx hb dX4_limit_21 rfl (lv_at hl 0 rfl) ?_
      refine gf_X4_23 hx hb hT hown hK hP 0 rfl rfl dX4_limit_22 ?_
      refine gf_X4_95 hx hb hT hown hK hP 1 rfl rfl dX4_limit_25 ?_
      refine lv_istore_n (lv' := [(2, .int (zI (most))), (0, .ref xx), (1, .int (zI (v)))]) hx hb dX4_limit_28 rfl hl (by decide) rfl (fun ls hl => ?_)
      refine lv_aload_n hx hb dX4_limit_29 rfl (lv_at hl 1 rfl) ?_
      refine gf_X4_23 hx hb hT hown hK hP 0 rfl rfl dX4_limit_30 ?_
      refine lv_iload_n hx hb dX4_limit_33 rfl (lv_at hl 2 rfl) ?_
      refine pf_X4_95 (ws' := xL G xx pg ik mx co pa cv ca cb ar nx w h pts cnt v rch M C P cc L V F) hx hb hT hown hK hP hD hS 1 rfl (Nat.le_of_ble_eq_true rfl) rfl rfl rfl dX4_limit_34 (fun H locs hP hD hS => ?_)
      refine lv_iload_n hx hb dX4_limit_37 rfl (lv_at hl 0 rfl) ?_
      refine vx_ret ?_
      refine W.widen (k := 1) (n := 6) (Nat.le_of_ble_eq_true rfl) (Nat.le_of_ble_eq_true rfl) ?_
      exact z_wri () hx hb hr hlocks hK hP hD hS (if_neg (by omega)) (rfl) dX4_limit_38
    · skip
      exact z_throw (text := "a limit is 0 to 2040") hx hb hst hown hT hX kt_IAE (by decide +kernel) hml hl.1 htab hlocks dX4_limit_11 dX4_limit_14 dX4_limit_15 dX4_limit_17 dX4_limit_20 (Nat.le_of_ble_eq_true rfl) (Nat.le_of_ble_eq_true rfl) ⟨Nat.le_of_ble_eq_true rfl, Nat.le_of_ble_eq_true rfl⟩ (Nat.le_of_ble_eq_true rfl) (Nat.le_of_ble_eq_true rfl) (⟨rfl, if_pos (by omega)⟩)

set_option maxHeartbeats 4000000 in
set_option maxRecDepth 100000 in
theorem c_X4_width (l : Launch) (hst : l.stackTraces = false) (G : zG) (xx pg ik mx co pa cv ca cb ar : Nat) (nx w h pts cnt most rch : Int) (M C P : Int → Int) (cc : Int) (L V : Int → Int) (F : Nat → Option Nat) (v : Int) (hp : pgOK w h pts cnt most rch M C P) (hvv : cvOK cc L V) (hnx : 0 ≤ nx ∧ nx ≤ 6) (hv : -2147483648 ≤ v ∧ v ≤ 2147483647) : zXi l yX4_width cX4_width 3 (some .int) { frames := 6, cells := 1, slots := 6, locals := 82 } G [.ref xx, .int (zI (v))] (xL G xx pg ik mx co pa cv ca cb ar nx w h pts cnt most rch M C P cc L V F) (S := Unit) (fun u => rch) (fun u => cWid v = 0) (fun u => xL G xx pg ik mx co pa cv ca cb ar nx w h pts cnt most v M C P cc L V F) (fun E => E = "java/lang/IllegalArgumentException" ∧ cWid v = 1) := by
  intro sz
  refine vx_ofW (cc := cX4_width) (maxL := 3) (ret := (some .int)) (by decide) rfl ?_
  intro p e s m args below meth c s₁ B hml htab hv
  obtain ⟨rfl, hsz, hP, hK, hD0, hX⟩ := hv
  have hx := B.exec
  have hb := B.bytes
  have hr := B.returns
  have hT : ∀ w ∈ TB, w.before _ s = true := fun w h => atoms_spec (ws := Cond.code yX4_width cX4_width 3 (some .int) :: TB) B.pre w (List.mem_cons_of_mem _ h)
  have hown : s.vm.findClass RX4 = some m.cls := findClass_of_methodNamed B.named
  have hlocks := B.notSynchronized
  subst hsz
  have hD := hD0.self (sz := s.heap.size)
  generalize hAe : va_A (xL G xx pg ik mx co pa cv ca cb ar nx w h pts cnt most rch M C P cc L V F) s.heap.size = A at hD hX ⊢
  have hA : ∀ q : Nat, s.heap.size ≤ q → A q := fun q h => by rw [← hAe]; exact Or.inr h
  have hS : va_S A s.heap s.heap [] := va_S.rf
  have hsub : ∀ q, va_A (xL G xx pg ik mx co pa cv ca cb ar nx w h pts cnt most rch M C P cc L V F) s.heap.size q → A q := fun q h => by rw [← hAe]; exact h
  have hP : zP G (xL G xx pg ik mx co pa cv ca cb ar nx w h pts cnt most rch M C P cc L V F) s.heap := hP
  have hD : va_D A (xL G xx pg ik mx co pa cv ca cb ar nx w h pts cnt most rch M C P cc L V F) := hD
  have hl := lv_entry ([.ref xx, .int (zI (v))]) (n := 3) (Nat.le_of_ble_eq_true rfl)
  rw [lg_entry_eq]
  generalize (lg_sl ([.ref xx, .int (zI (v))]) ++ List.replicate (3 - (lg_sl ([.ref xx, .int (zI (v))])).length) Slot.unset).toArray = ls at hl ⊢
  have hl : lv_has ls 3 [(0, .ref xx), (1, .int (zI (v)))] := hl
  obtain ⟨hw, hh, hpts, hcnt, hmost, hrch, hM, hC, hB⟩ := id hp
  have hpt := pgOK_pts hp
  obtain ⟨hcc, hL0, hLe, hLs, hLb, hVb⟩ := id hvv
  refine lv_iload_n hx hb dX4_width_0 rfl (lv_at hl 1 rfl) ?_
  refine z_if_lt (tgt := 9) hx hb dX4_width_1 (by decide) (by omega) (fun h1 => ?_) (fun h1 => ?_)
  · skip
    exact z_throw (text := "a trap's width is 0 to 3") hx hb hst hown hT hX kt_IAE (by decide +kernel) hml hl.1 htab hlocks dX4_width_9 dX4_width_12 dX4_width_13 dX4_width_15 dX4_width_18 (Nat.le_of_ble_eq_true rfl) (Nat.le_of_ble_eq_true rfl) ⟨Nat.le_of_ble_eq_true rfl, Nat.le_of_ble_eq_true rfl⟩ (Nat.le_of_ble_eq_true rfl) (Nat.le_of_ble_eq_true rfl) (⟨rfl, if_pos (by omega)⟩)
  · skip
    refine lv_iload_n hx hb dX4_width_4 rfl (lv_at hl 1 rfl) ?_
    refine z_iconst hx hb dX4_width_5 ?_
    refine z_icmp_le (tgt := 19) hx hb dX4_width_6 (by decide) (by omega) (by omega) (fun h6 => ?_) (fun h6 => ?_)
    · skip
      refine lv_aload_n hx hb dX4_width_19 rfl (lv_at hl 0 rfl) ?_
      refine gf_X4_23 hx hb hT hown hK hP 0 rfl rfl dX4_width_20 ?_
      refine gf_X4_124 hx hb hT hown hK hP 1 rfl rfl dX4_width_23 ?_
      refine lv_istore_n (lv' := [(2, .int (zI (rch))), (0, .ref xx), (1, .int (zI (v)))]) hx hb dX4_width_26 rfl hl (by decide) rfl (fun ls hl => ?_)
      refine lv_aload_n hx hb dX4_width_27 rfl (lv_at hl 1 rfl) ?_
      refine gf_X4_23 hx hb hT hown hK hP 0 rfl rfl dX4_width_28 ?_
      refine lv_iload_n hx hb dX4_width_31 rfl (lv_at hl 2 rfl) ?_
      refine pf_X4_124 (ws' := xL G xx pg ik mx co pa cv ca cb ar nx w h pts cnt most v M C P cc L V F) hx hb hT hown hK hP hD hS 1 rfl (Nat.le_of_ble_eq_true rfl) rfl rfl rfl dX4_width_32 (fun H locs hP hD hS => ?_)
      refine lv_iload_n hx hb dX4_width_35 rfl (lv_at hl 0 rfl) ?_
      refine vx_ret ?_
      refine W.widen (k := 1) (n := 6) (Nat.le_of_ble_eq_true rfl) (Nat.le_of_ble_eq_true rfl) ?_
      exact z_wri () hx hb hr hlocks hK hP hD hS (if_neg (by omega)) (rfl) dX4_width_36
    · skip
      exact z_throw (text := "a trap's width is 0 to 3") hx hb hst hown hT hX kt_IAE (by decide +kernel) hml hl.1 htab hlocks dX4_width_9 dX4_width_12 dX4_width_13 dX4_width_15 dX4_width_18 (Nat.le_of_ble_eq_true rfl) (Nat.le_of_ble_eq_true rfl) ⟨Nat.le_of_ble_eq_true rfl, Nat.le_of_ble_eq_true rfl⟩ (Nat.le_of_ble_eq_true rfl) (Nat.le_of_ble_eq_true rfl) (⟨rfl, if_pos (by omega)⟩)

set_option maxHeartbeats 4000000 in
set_option maxRecDepth 100000 in
theorem c_X4_colour (l : Launch) (hst : l.stackTraces = false) (G : zG) (xx pg ik mx co pa cv ca cb ar : Nat) (nx w h pts cnt most rch : Int) (M C P : Int → Int) (cc : Int) (L V : Int → Int) (F : Nat → Option Nat) (k v : Int) (hp : pgOK w h pts cnt most rch M C P) (hvv : cvOK cc L V) (hnx : 0 ≤ nx ∧ nx ≤ 6) (hk : -2147483648 ≤ k ∧ k ≤ 2147483647) (hv : -2147483648 ≤ v ∧ v ≤ 2147483647) : zXv l yX4_colour cX4_colour 3 { frames := 8, cells := 1, slots := 6, locals := 116 } G [.ref xx, .int (zI (k)), .int (zI (v))] (xL G xx pg ik mx co pa cv ca cb ar nx w h pts cnt most rch M C P cc L V F) (S := Unit) (fun u => cCol k v cnt = 0) (fun u => xL G xx pg ik mx co pa cv ca cb ar nx w h pts cnt most rch M (zu C k v) P cc L V F) (fun E => (E = "java/lang/IllegalArgumentException" ∧ cCol k v cnt = 1) ∨ (E = "java/lang/ArrayIndexOutOfBoundsException" ∧ cCol k v cnt = 2)) := by
  intro sz
  refine vx_ofW (cc := cX4_colour) (maxL := 3) (ret := none) (by decide) rfl ?_
  intro p e s m args below meth c s₁ B hml htab hv
  obtain ⟨rfl, hsz, hP, hK, hD0, hX⟩ := hv
  have hx := B.exec
  have hb := B.bytes
  have hr := B.returns
  have hT : ∀ w ∈ TB, w.before _ s = true := fun w h => atoms_spec (ws := Cond.code yX4_colour cX4_colour 3 none :: TB) B.pre w (List.mem_cons_of_mem _ h)
  have hown : s.vm.findClass RX4 = some m.cls := findClass_of_methodNamed B.named
  have hlocks := B.notSynchronized
  subst hsz
  have hD := hD0.self (sz := s.heap.size)
  generalize hAe : va_A (xL G xx pg ik mx co pa cv ca cb ar nx w h pts cnt most rch M C P cc L V F) s.heap.size = A at hD hX ⊢
  have hA : ∀ q : Nat, s.heap.size ≤ q → A q := fun q h => by rw [← hAe]; exact Or.inr h
  have hS : va_S A s.heap s.heap [] := va_S.rf
  have hsub : ∀ q, va_A (xL G xx pg ik mx co pa cv ca cb ar nx w h pts cnt most rch M C P cc L V F) s.heap.size q → A q := fun q h => by rw [← hAe]; exact h
  have hP : zP G (xL G xx pg ik mx co pa cv ca cb ar nx w h pts cnt most rch M C P cc L V F) s.heap := hP
  have hD : va_D A (xL G xx pg ik mx co pa cv ca cb ar nx w h pts cnt most rch M C P cc L V F) := hD
  have hl := lv_entry ([.ref xx, .int (zI (k)), .int (zI (v))]) (n := 3) (Nat.le_of_ble_eq_true rfl)
  rw [lg_entry_eq]
  generalize (lg_sl ([.ref xx, .int (zI (k)), .int (zI (v))]) ++ List.replicate (3 - (lg_sl ([.ref xx, .int (zI (k)), .int (zI (v))])).length) Slot.unset).toArray = ls at hl ⊢
  have hl : lv_has ls 3 [(0, .ref xx), (1, .int (zI (k))), (2, .int (zI (v)))] := hl
  obtain ⟨hw, hh, hpts, hcnt, hmost, hrch, hM, hC, hB⟩ := id hp
  have hpt := pgOK_pts hp
  obtain ⟨hcc, hL0, hLe, hLs, hLb, hVb⟩ := id hvv
  refine lv_iload_n hx hb dX4_colour_0 rfl (lv_at hl 2 rfl) ?_
  refine z_iconst hx hb dX4_colour_1 ?_
  refine z_icmp_lt (tgt := 12) hx hb dX4_colour_2 (by decide) (by omega) (by omega) (fun h2 => ?_) (fun h2 => ?_)
  · skip
    exact z_throw (text := "a colour has a byte of an ink, or -1") hx hb hst hown hT hX kt_IAE (by decide +kernel) hml hl.1 htab hlocks dX4_colour_12 dX4_colour_15 dX4_colour_16 dX4_colour_18 dX4_colour_21 (Nat.le_of_ble_eq_true rfl) (Nat.le_of_ble_eq_true rfl) ⟨Nat.le_of_ble_eq_true rfl, Nat.le_of_ble_eq_true rfl⟩ (Nat.le_of_ble_eq_true rfl) (Nat.le_of_ble_eq_true rfl) (Or.inl ⟨rfl, if_pos (by omega)⟩)
  · skip
    refine lv_iload_n hx hb dX4_colour_5 rfl (lv_at hl 2 rfl) ?_
    refine z_sipush hx hb dX4_colour_6 (by decide +kernel) ?_
    refine z_icmp_le (tgt := 22) hx hb dX4_colour_9 (by decide) (by omega) (by omega) (fun h9 => ?_) (fun h9 => ?_)
    · skip
      refine lv_aload_n hx hb dX4_colour_22 rfl (lv_at hl 0 rfl) ?_
      refine lv_iload_n hx hb dX4_colour_23 rfl (lv_at hl 1 rfl) ?_
      refine z_xt (G := G) (q0 := 0) (As := [.int (zI (k))]) (rest := []) hx hb hml hown hT hK htab hlocks hX (c_X4_checkInk l hst G xx pg ik mx co pa cv ca cb ar nx w h pts cnt most rch M C P cc L V F (k) hp hvv hnx (by omega)) kc_X4_75 ⟨Nat.le_of_ble_eq_true rfl, Nat.le_of_ble_eq_true rfl⟩ ⟨Nat.le_of_ble_eq_true rfl, Nat.le_of_ble_eq_true rfl⟩ ⟨Nat.le_of_ble_eq_true rfl, Nat.le_of_ble_eq_true rfl⟩ hP hD0 hsub rfl rfl rfl rfl hl.1 rfl (Nat.le_of_ble_eq_true rfl) dX4_colour_24 (fun E9 h9 => Or.inr ⟨h9.1, by unfold cCol; rw [if_neg (by omega), if_neg h9.2]⟩) (fun ok24 => ?_)
      refine lv_aload_n hx hb dX4_colour_27 rfl (lv_at hl 0 rfl) ?_
      refine gf_X4_23 hx hb hT hown hK hP 0 rfl rfl dX4_colour_28 ?_
      refine gf_X4_55 hx hb hT hown hK hP 1 rfl rfl dX4_colour_31 ?_
      refine gf_X4_79 hx hb hT hown hK hP 2 rfl rfl dX4_colour_34 ?_
      refine lv_iload_n hx hb dX4_colour_37 rfl (lv_at hl 1 rfl) ?_
      refine lv_iload_n hx hb dX4_colour_38 rfl (lv_at hl 2 rfl) ?_
      refine z_iast (ws' := xL G xx pg ik mx co pa cv ca cb ar nx w h pts cnt most rch M (zu C k v) P cc L V F) hx hb hK hP hD hS 5 rfl (⟨by omega, by omega, by omega⟩) dX4_colour_39 rfl (fun H locs hP hD hS => ?_)
      refine vx_ret ?_
      exact z_wrv () hx hb hr hlocks hK hP hD hS (by unfold cCol; rw [if_neg (by omega), if_pos (by omega)]) dX4_colour_40
    · skip
      exact z_throw (text := "a colour has a byte of an ink, or -1") hx hb hst hown hT hX kt_IAE (by decide +kernel) hml hl.1 htab hlocks dX4_colour_12 dX4_colour_15 dX4_colour_16 dX4_colour_18 dX4_colour_21 (Nat.le_of_ble_eq_true rfl) (Nat.le_of_ble_eq_true rfl) ⟨Nat.le_of_ble_eq_true rfl, Nat.le_of_ble_eq_true rfl⟩ (Nat.le_of_ble_eq_true rfl) (Nat.le_of_ble_eq_true rfl) (Or.inl ⟨rfl, if_pos (by omega)⟩)

set_option maxHeartbeats 4000000 in
set_option maxRecDepth 100000 in
theorem c_X4_ink (l : Launch) (hst : l.stackTraces = false) (G : zG) (xx pg ik mx co pa cv ca cb ar : Nat) (nx w h pts cnt most rch : Int) (M C P : Int → Int) (cc : Int) (L V : Int → Int) (F : Nat → Option Nat) (a1 a2 a3 a4 : Int) (hp : pgOK w h pts cnt most rch M C P) (hvv : cvOK cc L V) (hnx : 0 ≤ nx ∧ nx ≤ 6) (ha1 : -2147483648 ≤ a1 ∧ a1 ≤ 2147483647) (ha2 : -2147483648 ≤ a2 ∧ a2 ≤ 2147483647) (ha3 : -2147483648 ≤ a3 ∧ a3 ≤ 2147483647) (ha4 : -2147483648 ≤ a4 ∧ a4 ≤ 2147483647) : zXi l yX4_ink cX4_ink 5 (some .int) { frames := 6, cells := 1, slots := 6, locals := 82 } G [.ref xx, .int (zI (a1)), .int (zI (a2)), .int (zI (a3)), .int (zI (a4))] (xL G xx pg ik mx co pa cv ca cb ar nx w h pts cnt most rch M C P cc L V F) (S := Unit) (fun u => cnt) (fun u => cInk a1 a2 a3 a4 cnt = 0) (fun u => xL G xx pg ik mx co pa cv ca cb ar nx w h pts (cnt + 1) most rch (zu (zu (zu (zu M (cnt * 4) a1) (cnt * 4 + 1) a2) (cnt * 4 + 2) a3) (cnt * 4 + 3) a4) C P cc L V F) (fun E => (E = "java/lang/IllegalArgumentException" ∧ cInk a1 a2 a3 a4 cnt = 1) ∨ (E = "java/lang/UnsupportedOperationException" ∧ cInk a1 a2 a3 a4 cnt = 2)) := by
  intro sz
  refine vx_ofW (cc := cX4_ink) (maxL := 5) (ret := (some .int)) (by decide) rfl ?_
  intro p e s m args below meth c s₁ B hml htab hv
  obtain ⟨rfl, hsz, hP, hK, hD0, hX⟩ := hv
  have hx := B.exec
  have hb := B.bytes
  have hr := B.returns
  have hT : ∀ w ∈ TB, w.before _ s = true := fun w h => atoms_spec (ws := Cond.code yX4_ink cX4_ink 5 (some .int) :: TB) B.pre w (List.mem_cons_of_mem _ h)
  have hown : s.vm.findClass RX4 = some m.cls := findClass_of_methodNamed B.named
  have hlocks := B.notSynchronized
  subst hsz
  have hD := hD0.self (sz := s.heap.size)
  generalize hAe : va_A (xL G xx pg ik mx co pa cv ca cb ar nx w h pts cnt most rch M C P cc L V F) s.heap.size = A at hD hX ⊢
  have hA : ∀ q : Nat, s.heap.size ≤ q → A q := fun q h => by rw [← hAe]; exact Or.inr h
  have hS : va_S A s.heap s.heap [] := va_S.rf
  have hsub : ∀ q, va_A (xL G xx pg ik mx co pa cv ca cb ar nx w h pts cnt most rch M C P cc L V F) s.heap.size q → A q := fun q h => by rw [← hAe]; exact h
  have hP : zP G (xL G xx pg ik mx co pa cv ca cb ar nx w h pts cnt most rch M C P cc L V F) s.heap := hP
  have hD : va_D A (xL G xx pg ik mx co pa cv ca cb ar nx w h pts cnt most rch M C P cc L V F) := hD
  have hl := lv_entry ([.ref xx, .int (zI (a1)), .int (zI (a2)), .int (zI (a3)), .int (zI (a4))]) (n := 5) (Nat.le_of_ble_eq_true rfl)
  rw [lg_entry_eq]
  generalize (lg_sl ([.ref xx, .int (zI (a1)), .int (zI (a2)), .int (zI (a3)), .int (zI (a4))]) ++ List.replicate (5 - (lg_sl ([.ref xx, .int (zI (a1)), .int (zI (a2)), .int (zI (a3)), .int (zI (a4))])).length) Slot.unset).toArray = ls at hl ⊢
  have hl : lv_has ls 5 [(0, .ref xx), (1, .int (zI (a1))), (2, .int (zI (a2))), (3, .int (zI (a3))), (4, .int (zI (a4)))] := hl
  obtain ⟨hw, hh, hpts, hcnt, hmost, hrch, hM, hC, hB⟩ := id hp
  have hpt := pgOK_pts hp
  obtain ⟨hcc, hL0, hLe, hLs, hLb, hVb⟩ := id hvv
  refine lv_iload_n hx hb dX4_ink_0 rfl (lv_at hl 1 rfl) ?_
  refine z_callS (G := G) (As := [.int (zI (a1))]) (rest := []) hx hb hml hown hT hK (c_X4_isByte l G (a1) (by omega)) kc_X4_44 ⟨Nat.le_of_ble_eq_true rfl, Nat.le_of_ble_eq_true rfl⟩ ⟨rfl, rfl⟩ ⟨Nat.le_of_ble_eq_true rfl, Nat.le_of_ble_eq_true rfl⟩ (hP.sub [] rfl) rfl hl.1 rfl (Nat.le_of_ble_eq_true rfl) dX4_ink_1 ?_
  refine z_if_eq (tgt := 29) hx hb dX4_ink_4 (by decide) (bI_rng _) (fun h4 => ?_) (fun h4 => ?_)
  · skip
    have h4 := bI_f.mp h4
    simp only [Bool.and_eq_true, Bool.and_eq_false_iff, Bool.or_eq_true, Bool.or_eq_false_iff, decide_eq_true_eq, decide_eq_false_iff_not] at h4
    exact z_throw (text := "a mix is of bytes") hx hb hst hown hT hX kt_IAE (by decide +kernel) hml hl.1 htab hlocks dX4_ink_29 dX4_ink_32 dX4_ink_33 dX4_ink_35 dX4_ink_38 (Nat.le_of_ble_eq_true rfl) (Nat.le_of_ble_eq_true rfl) ⟨Nat.le_of_ble_eq_true rfl, Nat.le_of_ble_eq_true rfl⟩ (Nat.le_of_ble_eq_true rfl) (Nat.le_of_ble_eq_true rfl) (Or.inl ⟨rfl, if_neg (by omega)⟩)
  · skip
    have h4 := bI_t.mp h4
    simp only [Bool.and_eq_true, Bool.and_eq_false_iff, Bool.or_eq_true, Bool.or_eq_false_iff, decide_eq_true_eq, decide_eq_false_iff_not] at h4
    refine lv_iload_n hx hb dX4_ink_7 rfl (lv_at hl 2 rfl) ?_
    refine z_callS (G := G) (As := [.int (zI (a2))]) (rest := []) hx hb hml hown hT hK (c_X4_isByte l G (a2) (by omega)) kc_X4_44 ⟨Nat.le_of_ble_eq_true rfl, Nat.le_of_ble_eq_true rfl⟩ ⟨rfl, rfl⟩ ⟨Nat.le_of_ble_eq_true rfl, Nat.le_of_ble_eq_true rfl⟩ (hP.sub [] rfl) rfl hl.1 rfl (Nat.le_of_ble_eq_true rfl) dX4_ink_8 ?_
    refine z_if_eq (tgt := 29) hx hb dX4_ink_11 (by decide) (bI_rng _) (fun h11 => ?_) (fun h11 => ?_)
    · skip
      have h11 := bI_f.mp h11
      simp only [Bool.and_eq_true, Bool.and_eq_false_iff, Bool.or_eq_true, Bool.or_eq_false_iff, decide_eq_true_eq, decide_eq_false_iff_not] at h11
      exact z_throw (text := "a mix is of bytes") hx hb hst hown hT hX kt_IAE (by decide +kernel) hml hl.1 htab hlocks dX4_ink_29 dX4_ink_32 dX4_ink_33 dX4_ink_35 dX4_ink_38 (Nat.le_of_ble_eq_true rfl) (Nat.le_of_ble_eq_true rfl) ⟨Nat.le_of_ble_eq_true rfl, Nat.le_of_ble_eq_true rfl⟩ (Nat.le_of_ble_eq_true rfl) (Nat.le_of_ble_eq_true rfl) (Or.inl ⟨rfl, if_neg (by omega)⟩)
    · skip
      have h11 := bI_t.mp h11
      simp only [Bool.and_eq_true, Bool.and_eq_false_iff, Bool.or_eq_true, Bool.or_eq_false_iff, decide_eq_true_eq, decide_eq_false_iff_not] at h11
      refine lv_iload_n hx hb dX4_ink_14 rfl (lv_at hl 3 rfl) ?_
      refine z_callS (G := G) (As := [.int (zI (a3))]) (rest := []) hx hb hml hown hT hK (c_X4_isByte l G (a3) (by omega)) kc_X4_44 ⟨Nat.le_of_ble_eq_true rfl, Nat.le_of_ble_eq_true rfl⟩ ⟨rfl, rfl⟩ ⟨Nat.le_of_ble_eq_true rfl, Nat.le_of_ble_eq_true rfl⟩ (hP.sub [] rfl) rfl hl.1 rfl (Nat.le_of_ble_eq_true rfl) dX4_ink_15 ?_
      refine z_if_eq (tgt := 29) hx hb dX4_ink_18 (by decide) (bI_rng _) (fun h18 => ?_) (fun h18 => ?_)
      · skip
        have h18 := bI_f.mp h18
        simp only [Bool.and_eq_true, Bool.and_eq_false_iff, Bool.or_eq_true, Bool.or_eq_false_iff, decide_eq_true_eq, decide_eq_false_iff_not] at h18
        exact z_throw (text := "a mix is of bytes") hx hb hst hown hT hX kt_IAE (by decide +kernel) hml hl.1 htab hlocks dX4_ink_29 dX4_ink_32 dX4_ink_33 dX4_ink_35 dX4_ink_38 (Nat.le_of_ble_eq_true rfl) (Nat.le_of_ble_eq_true rfl) ⟨Nat.le_of_ble_eq_true rfl, Nat.le_of_ble_eq_true rfl⟩ (Nat.le_of_ble_eq_true rfl) (Nat.le_of_ble_eq_true rfl) (Or.inl ⟨rfl, if_neg (by omega)⟩)
      · skip
        have h18 := bI_t.mp h18
        simp only [Bool.and_eq_true, Bool.and_eq_false_iff, Bool.or_eq_true, Bool.or_eq_false_iff, decide_eq_true_eq, decide_eq_false_iff_not] at h18
        refine lv_iload hx hb dX4_ink_21 (lv_at hl 4 rfl) ?_
        refine z_callS (G := G) (As := [.int (zI (a4))]) (rest := []) hx hb hml hown hT hK (c_X4_isByte l G (a4) (by omega)) kc_X4_44 ⟨Nat.le_of_ble_eq_true rfl, Nat.le_of_ble_eq_true rfl⟩ ⟨rfl, rfl⟩ ⟨Nat.le_of_ble_eq_true rfl, Nat.le_of_ble_eq_true rfl⟩ (hP.sub [] rfl) rfl hl.1 rfl (Nat.le_of_ble_eq_true rfl) dX4_ink_23 ?_
        refine z_if_ne (tgt := 39) hx hb dX4_ink_26 (by decide) (bI_rng _) (fun h26 => ?_) (fun h26 => ?_)
        · skip
          have h26 := bI_t.mp h26
          simp only [Bool.and_eq_true, Bool.and_eq_false_iff, Bool.or_eq_true, Bool.or_eq_false_iff, decide_eq_true_eq, decide_eq_false_iff_not] at h26
          refine lv_aload_n hx hb dX4_ink_39 rfl (lv_at hl 0 rfl) ?_
          refine gf_X4_23 hx hb hT hown hK hP 0 rfl rfl dX4_ink_40 ?_
          refine gf_X4_55 hx hb hT hown hK hP 1 rfl rfl dX4_ink_43 ?_
          refine gf_X4_59 hx hb hT hown hK hP 2 rfl rfl dX4_ink_46 ?_
          refine z_bipush hx hb dX4_ink_49 (by decide +kernel) ?_
          refine z_icmp_lt (tgt := 64) hx hb dX4_ink_51 (by decide) (by omega) (by omega) (fun h51 => ?_) (fun h51 => ?_)
          · skip
            refine lv_aload_n hx hb dX4_ink_64 rfl (lv_at hl 0 rfl) ?_
            refine gf_X4_23 hx hb hT hown hK hP 0 rfl rfl dX4_ink_65 ?_
            refine gf_X4_55 hx hb hT hown hK hP 1 rfl rfl dX4_ink_68 ?_
            refine lv_iload_n hx hb dX4_ink_71 rfl (lv_at hl 1 rfl) ?_
            refine lv_iload_n hx hb dX4_ink_72 rfl (lv_at hl 2 rfl) ?_
            refine lv_iload_n hx hb dX4_ink_73 rfl (lv_at hl 3 rfl) ?_
            refine lv_iload hx hb dX4_ink_74 (lv_at hl 4 rfl) ?_
            refine z_wVi (q0 := 1) (G := G) (X := xL G xx pg ik mx co pa cv ca cb ar nx w h pts cnt most rch M C P cc L V F) (pl := []) (As := [.int (zI (a1)), .int (zI (a2)), .int (zI (a3)), .int (zI (a4))]) (rest := []) hx hb hml hown hT hK (c_X2_addMix l G pg ik mx co pa w h pts cnt most rch M C P (a1) (a2) (a3) (a4) hp (by omega)) kc_X4_69 ⟨Nat.le_of_ble_eq_true rfl, Nat.le_of_ble_eq_true rfl⟩ ⟨Nat.le_of_ble_eq_true rfl, Nat.le_of_ble_eq_true rfl⟩ hP hD hS hA [1, 2, 3, 4, 5] [0, 6, 7, 8, 9] (wr := [(xx, .inr (5, [.ref pg, .ref cv, .ref ar, .int (zI (nx))])), (cv, .inr (2, [.ref ca, .ref cb, .int (zI (cc))])), ia G ca 12 L, ia G cb 12 V, aq G ar 6 F]) rfl rfl rfl rfl (by decide) rfl rfl rfl rfl hl.1 rfl (Nat.le_of_ble_eq_true rfl) dX4_ink_76 (fun u9 H locs hok9 hP hD hS => ?_)
            have hP : zP G (xL G xx pg ik mx co pa cv ca cb ar nx w h pts (cnt + 1) most rch (zu (zu (zu (zu M (cnt * 4) a1) (cnt * 4 + 1) a2) (cnt * 4 + 2) a3) (cnt * 4 + 3) a4) C P cc L V F) H := va_P.sub hP [0, 5, 6, 7, 8, 9, 1, 2, 3, 4] rfl
            have hD : va_D A (xL G xx pg ik mx co pa cv ca cb ar nx w h pts (cnt + 1) most rch (zu (zu (zu (zu M (cnt * 4) a1) (cnt * 4 + 1) a2) (cnt * 4 + 2) a3) (cnt * 4 + 3) a4) C P cc L V F) := va_D.sub hD [0, 5, 6, 7, 8, 9, 1, 2, 3, 4] (by decide) rfl
            refine vx_ret ?_
            refine W.widen (k := 1) (n := 6) (Nat.le_of_ble_eq_true rfl) (Nat.le_of_ble_eq_true rfl) ?_
            exact z_wri () hx hb hr hlocks hK hP hD hS (by unfold cInk; rw [if_pos (by omega), if_neg (by omega)]) (rfl) dX4_ink_79
          · skip
            exact z_throw (text := "there are 8 inks") hx hb hst hown hT hX kt_UOE (by decide +kernel) hml hl.1 htab hlocks dX4_ink_54 dX4_ink_57 dX4_ink_58 dX4_ink_60 dX4_ink_63 (Nat.le_of_ble_eq_true rfl) (Nat.le_of_ble_eq_true rfl) ⟨Nat.le_of_ble_eq_true rfl, Nat.le_of_ble_eq_true rfl⟩ (Nat.le_of_ble_eq_true rfl) (Nat.le_of_ble_eq_true rfl) (Or.inr ⟨rfl, by unfold cInk; rw [if_pos (by omega), if_pos (by omega)]⟩)
        · skip
          have h26 := bI_f.mp h26
          simp only [Bool.and_eq_true, Bool.and_eq_false_iff, Bool.or_eq_true, Bool.or_eq_false_iff, decide_eq_true_eq, decide_eq_false_iff_not] at h26
          exact z_throw (text := "a mix is of bytes") hx hb hst hown hT hX kt_IAE (by decide +kernel) hml hl.1 htab hlocks dX4_ink_29 dX4_ink_32 dX4_ink_33 dX4_ink_35 dX4_ink_38 (Nat.le_of_ble_eq_true rfl) (Nat.le_of_ble_eq_true rfl) ⟨Nat.le_of_ble_eq_true rfl, Nat.le_of_ble_eq_true rfl⟩ (Nat.le_of_ble_eq_true rfl) (Nat.le_of_ble_eq_true rfl) (Or.inl ⟨rfl, if_neg (by omega)⟩)

set_option maxHeartbeats 4000000 in
set_option maxRecDepth 100000 in
theorem c_X4_lender (l : Launch) (hst : l.stackTraces = false) (G : zG) (xx pg ik mx co pa cv ca cb ar : Nat) (nx w h pts cnt most rch : Int) (M C P : Int → Int) (cc : Int) (L V : Int → Int) (F : Nat → Option Nat) (x y : Int) (hp : pgOK w h pts cnt most rch M C P) (hvv : cvOK cc L V) (hnx : 0 ≤ nx ∧ nx ≤ 6) (hx : -2147483648 ≤ x ∧ x ≤ 2147483647) (hy : -2147483648 ≤ y ∧ y ≤ 2147483647) : zXi l yX4_lender cX4_lender 3 (some .int) { frames := 8, cells := 1, slots := 6, locals := 123 } G [.ref xx, .int (zI (x)), .int (zI (y))] (xL G xx pg ik mx co pa cv ca cb ar nx w h pts cnt most rch M C P cc L V F) (S := Unit) (fun u => (lendV w h rch x y (cdB M P pts cnt w (x + w * y)))) (fun u => cLen x y w h = 0) (fun u => xL G xx pg ik mx co pa cv ca cb ar nx w h pts cnt most rch M C P cc L V F) (fun E => E = "java/lang/ArrayIndexOutOfBoundsException" ∧ cLen x y w h = 1) := by
  intro sz
  refine vx_ofW (cc := cX4_lender) (maxL := 3) (ret := (some .int)) (by decide) rfl ?_
  intro p e s m args below meth c s₁ B hml htab hv
  obtain ⟨rfl, hsz, hP, hK, hD0, hX⟩ := hv
  have hx := B.exec
  have hb := B.bytes
  have hr := B.returns
  have hT : ∀ w ∈ TB, w.before _ s = true := fun w h => atoms_spec (ws := Cond.code yX4_lender cX4_lender 3 (some .int) :: TB) B.pre w (List.mem_cons_of_mem _ h)
  have hown : s.vm.findClass RX4 = some m.cls := findClass_of_methodNamed B.named
  have hlocks := B.notSynchronized
  subst hsz
  have hD := hD0.self (sz := s.heap.size)
  generalize hAe : va_A (xL G xx pg ik mx co pa cv ca cb ar nx w h pts cnt most rch M C P cc L V F) s.heap.size = A at hD hX ⊢
  have hA : ∀ q : Nat, s.heap.size ≤ q → A q := fun q h => by rw [← hAe]; exact Or.inr h
  have hS : va_S A s.heap s.heap [] := va_S.rf
  have hsub : ∀ q, va_A (xL G xx pg ik mx co pa cv ca cb ar nx w h pts cnt most rch M C P cc L V F) s.heap.size q → A q := fun q h => by rw [← hAe]; exact h
  have hP : zP G (xL G xx pg ik mx co pa cv ca cb ar nx w h pts cnt most rch M C P cc L V F) s.heap := hP
  have hD : va_D A (xL G xx pg ik mx co pa cv ca cb ar nx w h pts cnt most rch M C P cc L V F) := hD
  have hl := lv_entry ([.ref xx, .int (zI (x)), .int (zI (y))]) (n := 3) (Nat.le_of_ble_eq_true rfl)
  rw [lg_entry_eq]
  generalize (lg_sl ([.ref xx, .int (zI (x)), .int (zI (y))]) ++ List.replicate (3 - (lg_sl ([.ref xx, .int (zI (x)), .int (zI (y))])).length) Slot.unset).toArray = ls at hl ⊢
  have hl : lv_has ls 3 [(0, .ref xx), (1, .int (zI (x))), (2, .int (zI (y)))] := hl
  obtain ⟨hw, hh, hpts, hcnt, hmost, hrch, hM, hC, hB⟩ := id hp
  have hpt := pgOK_pts hp
  obtain ⟨hcc, hL0, hLe, hLs, hLb, hVb⟩ := id hvv
  refine lv_aload_n hx hb dX4_lender_0 rfl (lv_at hl 0 rfl) ?_
  refine lv_iload_n hx hb dX4_lender_1 rfl (lv_at hl 1 rfl) ?_
  refine lv_iload_n hx hb dX4_lender_2 rfl (lv_at hl 2 rfl) ?_
  refine z_xt (G := G) (q0 := 0) (As := [.int (zI (x)), .int (zI (y))]) (rest := []) hx hb hml hown hT hK htab hlocks hX (c_X4_checkPoint l hst G xx pg ik mx co pa cv ca cb ar nx w h pts cnt most rch M C P cc L V F (x) (y) hp hvv hnx (by omega) (by omega)) kc_X4_100 ⟨Nat.le_of_ble_eq_true rfl, Nat.le_of_ble_eq_true rfl⟩ ⟨Nat.le_of_ble_eq_true rfl, Nat.le_of_ble_eq_true rfl⟩ ⟨Nat.le_of_ble_eq_true rfl, Nat.le_of_ble_eq_true rfl⟩ hP hD0 hsub rfl rfl rfl rfl hl.1 rfl (Nat.le_of_ble_eq_true rfl) dX4_lender_3 (fun E9 h9 => ⟨h9.1, if_neg h9.2⟩) (fun ok3 => ?_)
  refine lv_aload_n hx hb dX4_lender_6 rfl (lv_at hl 0 rfl) ?_
  refine gf_X4_23 hx hb hT hown hK hP 0 rfl rfl dX4_lender_7 ?_
  refine lv_iload_n hx hb dX4_lender_10 rfl (lv_at hl 1 rfl) ?_
  refine lv_iload_n hx hb dX4_lender_11 rfl (lv_at hl 2 rfl) ?_
  refine z_callV (q0 := 0) (G := G) (As := [.int (zI (x)), .int (zI (y))]) (rest := []) hx hb hml hown hT hK (c_X3_lenderOf l G pg ik mx co pa w h pts cnt most rch M C P (x) (y) hp (by omega) (by omega)) kc_X4_103 ⟨Nat.le_of_ble_eq_true rfl, Nat.le_of_ble_eq_true rfl⟩ ⟨rfl, rfl⟩ ⟨Nat.le_of_ble_eq_true rfl, Nat.le_of_ble_eq_true rfl⟩ (hP.sub [1, 2, 3, 4, 5] rfl) rfl rfl rfl rfl hl.1 rfl (Nat.le_of_ble_eq_true rfl) dX4_lender_12 ?_
  refine vx_ret ?_
  exact z_wri () hx hb hr hlocks hK hP hD hS (if_pos (by omega)) (rfl) dX4_lender_15
