def mix0 (k : Int) : Int → Int := fun j => if 0 ≤ j ∧ j < 5 * k ∧ j % 5 = 0 then 255 else 0
theorem mix0_0 : mix0 0 = fun _ => 0 := by funext j; unfold mix0; rw [if_neg (by omega)]
theorem mix0_s {k : Int} (h : 0 ≤ k) : zu (mix0 k) (5 * k) 255 = mix0 (k + 1) := by
  funext j; unfold zu mix0
  by_cases e : j = 5 * k
  · rw [if_pos e, if_pos (by omega)]
  · rw [if_neg e]
    by_cases q : 0 ≤ j ∧ j < 5 * k ∧ j % 5 = 0
    · rw [if_pos q, if_pos (by omega)]
    · rw [if_neg q, if_neg (by omega)]
def seg0 (a v k : Int) : Int → Int := fun j => if a ≤ j ∧ j < k then v else 0
theorem seg0_0 (a v : Int) : seg0 a v a = fun _ => 0 := by funext j; unfold seg0; rw [if_neg (by omega)]
theorem seg0_s {a v k : Int} (h : a ≤ k) : zu (seg0 a v k) k v = seg0 a v (k + 1) := by
  funext j; unfold zu seg0
  by_cases e : j = k
  · rw [if_pos e, if_pos (by omega)]
  · rw [if_neg e]
    by_cases q : a ≤ j ∧ j < k
    · rw [if_pos q, if_pos (by omega)]
    · rw [if_neg q, if_neg (by omega)]

set_option maxHeartbeats 4000000 in
set_option maxRecDepth 100000 in
theorem c_X2_init (l : Launch) (G : zG) (ik : Nat)  : zWv l yX2_init cX2_init 2 { frames := 1, cells := 2, slots := 40, locals := 12 } G [.ref ik] ([(ik, .inr (3, [.null, .null, .int (zI (0))]))]) (S := Nat × Nat) (fun u => True) (fun u => [(ik, .inr (3, [.ref u.1, .ref u.2, .int (zI 4)])), ia G u.1 32 (mix0 4), ia G u.2 8 (seg0 0 (-1) 8)]) := by
  intro sz
  refine Met.ofW (cc := cX2_init) (maxL := 2) (ret := none) (by decide) rfl ?_
  intro p e s m args below meth c s₁ B hml hv
  obtain ⟨rfl, hsz, hP, hK, hD0⟩ := hv
  have hx := B.exec
  have hb := B.bytes
  have hr := B.returns
  have hT : ∀ w ∈ TB, w.before _ s = true := fun w h => atoms_spec (ws := Cond.code yX2_init cX2_init 2 none :: TB) B.pre w (List.mem_cons_of_mem _ h)
  have hown : s.vm.findClass RX2 = some m.cls := findClass_of_methodNamed B.named
  have hlocks := B.notSynchronized
  have hin : meth.name = "<init>" := (name_of_methodNamed B.named B.method).1
  subst hsz
  have hD := hD0.self (sz := s.heap.size)
  generalize hAe : va_A ([(ik, .inr (3, [.null, .null, .int (zI (0))]))]) s.heap.size = A at hD ⊢
  have hA : ∀ q : Nat, s.heap.size ≤ q → A q := fun q h => by rw [← hAe]; exact Or.inr h
  have hS : va_S A s.heap s.heap [] := va_S.rf
  have hP : zP G ([(ik, .inr (3, [.null, .null, .int (zI (0))]))]) s.heap := hP
  have hD : va_D A ([(ik, .inr (3, [.null, .null, .int (zI (0))]))]) := hD
  have hl := lv_entry ([.ref ik]) (n := 2) (Nat.le_of_ble_eq_true rfl)
  rw [lg_entry_eq]
  generalize (lg_sl ([.ref ik]) ++ List.replicate (2 - (lg_sl ([.ref ik])).length) Slot.unset).toArray = ls at hl ⊢
  have hl : lv_has ls 2 [(0, .ref ik)] := hl
  refine lv_aload_n hx hb dX2_init_0 rfl (lv_at hl 0 rfl) ?_
  refine W.objInit hx hb hown (hT _ (mT 69 (by decide +kernel) rfl)) (hT _ (mT 50 (by decide +kernel) rfl)) (hT _ (mT 51 (by decide +kernel) rfl)) rfl (by rw [hml]; exact hl.1) rfl dX2_init_1 (Nat.le_of_ble_eq_true rfl) (Nat.le_of_ble_eq_true rfl) ?_
  refine W.eq (g2 := F0 m 4 ls []) rfl ?_
  refine lv_aload_n hx hb dX2_init_4 rfl (lv_at hl 0 rfl) ?_
  refine z_bipush hx hb dX2_init_5 (by decide +kernel) ?_
  refine z_newa hx hb hT hK hP hD hS hA (N := 32) (by omega) (Nat.le_of_ble_eq_true rfl) (Nat.le_of_ble_eq_true rfl) dX2_init_7 (fun mx H hP hD hS => ?_)
  have hP : zP G ([(ik, .inr (3, [.null, .null, .int (zI (0))])), ia G mx 32 (fun _ => 0)]) H := hP
  have hD : va_D A ([(ik, .inr (3, [.null, .null, .int (zI (0))])), ia G mx 32 (fun _ => 0)]) := hD
  refine W.widen (k := 1) (n := 32) (Nat.le_of_ble_eq_true rfl) (Nat.le_of_ble_eq_true rfl) ?_
  refine pf_X2_11 (ws' := [(ik, .inr (3, [.ref mx, .null, .int (zI (0))])), ia G mx 32 (fun _ => 0)]) hx hb hT hown hin hK hP hD hS 0 rfl (Nat.le_of_ble_eq_true rfl) rfl rfl rfl dX2_init_9 (fun H locs hP hD hS => ?_)
  refine lv_aload_n hx hb dX2_init_12 rfl (lv_at hl 0 rfl) ?_
  refine z_bipush hx hb dX2_init_13 (by decide +kernel) ?_
  refine z_newa hx hb hT hK hP hD hS hA (N := 8) (by omega) (Nat.le_of_ble_eq_true rfl) (Nat.le_of_ble_eq_true rfl) dX2_init_15 (fun co H hP hD hS => ?_)
  have hP : zP G ([(ik, .inr (3, [.ref mx, .null, .int (zI (0))])), ia G mx 32 (fun _ => 0), ia G co 8 (fun _ => 0)]) H := hP
  have hD : va_D A ([(ik, .inr (3, [.ref mx, .null, .int (zI (0))])), ia G mx 32 (fun _ => 0), ia G co 8 (fun _ => 0)]) := hD
  refine W.widen (k := 2) (n := 40) (Nat.le_of_ble_eq_true rfl) (Nat.le_of_ble_eq_true rfl) ?_
  refine pf_X2_15 (ws' := [(ik, .inr (3, [.ref mx, .ref co, .int (zI (0))])), ia G mx 32 (fun _ => 0), ia G co 8 (fun _ => 0)]) hx hb hT hown hin hK hP hD hS 0 rfl (Nat.le_of_ble_eq_true rfl) rfl rfl rfl dX2_init_17 (fun H locs hP hD hS => ?_)
  refine z_iconst hx hb dX2_init_20 ?_
  refine lv_istore_n (lv' := [(1, .int (zI (0))), (0, .ref ik)]) hx hb dX2_init_21 rfl hl (by decide) rfl (fun ls hl => ?_)
  have hP : zP G ([(ik, .inr (3, [.ref mx, .ref co, .int (zI (0))])), ia G mx 32 (fun _ => 0), ia G co 8 (seg0 0 (-1) 0)]) H := by rw [seg0_0]; exact hP
  have hD : va_D A ([(ik, .inr (3, [.ref mx, .ref co, .int (zI (0))])), ia G mx 32 (fun _ => 0), ia G co 8 (seg0 0 (-1) 0)]) := by rw [seg0_0]; exact hD
  refine z_loopH (σ := Int × Array Slot) (fun zq => F0 m 22 (zq.2) []) (fun zq => (0 ≤ zq.1 ∧ zq.1 ≤ 8) ∧ lv_has (zq.2) 2 [(0, .ref ik), (1, .int (zI (zq.1)))]) (fun zq => [(ik, .inr (3, [.ref mx, .ref co, .int (zI (0))])), ia G mx 32 (fun _ => 0), ia G co 8 (seg0 0 (-1) zq.1)]) (fun zq => (8 - zq.1).toNat) ?_ (0, ls) ⟨by refine ⟨?_, ?_⟩ <;> omega, lv_sub hl [1, 0] rfl⟩ hP hD hS
  intro zq H locs hq hP hD hS ih
  obtain ⟨k, ls⟩ := zq
  obtain ⟨hI, hl⟩ := hq
  try dsimp only at hI hl ih hP hD ⊢
  have hP : zP G ([(ik, .inr (3, [.ref mx, .ref co, .int (zI (0))])), ia G mx 32 (fun _ => 0), ia G co 8 (seg0 0 (-1) k)]) H := hP
  have hD : va_D A ([(ik, .inr (3, [.ref mx, .ref co, .int (zI (0))])), ia G mx 32 (fun _ => 0), ia G co 8 (seg0 0 (-1) k)]) := hD
  have ih22 := ih
  refine lv_iload_n hx hb dX2_init_22 rfl (lv_at hl 1 rfl) ?_
  refine z_bipush hx hb dX2_init_23 (by decide +kernel) ?_
  refine z_icmp_ge (tgt := 41) hx hb dX2_init_25 (by decide) (by omega) (by omega) (fun h25 => ?_) (fun h25 => ?_)
  · skip
    have hk9 : k = 8 := by omega
    rw [hk9] at hP hD
    refine z_iconst hx hb dX2_init_41 ?_
    refine lv_istore_n (lv' := [(1, .int (zI (0))), (0, .ref ik)]) hx hb dX2_init_42 rfl hl (by decide) rfl (fun ls hl => ?_)
    have hP : zP G ([(ik, .inr (3, [.ref mx, .ref co, .int (zI (0))])), ia G mx 32 (mix0 0), ia G co 8 (seg0 0 (-1) 8)]) H := by rw [mix0_0]; exact hP
    have hD : va_D A ([(ik, .inr (3, [.ref mx, .ref co, .int (zI (0))])), ia G mx 32 (mix0 0), ia G co 8 (seg0 0 (-1) 8)]) := by rw [mix0_0]; exact hD
    refine z_loopH (σ := Int × Array Slot) (fun zq => F0 m 43 (zq.2) []) (fun zq => (0 ≤ zq.1 ∧ zq.1 ≤ 4) ∧ lv_has (zq.2) 2 [(0, .ref ik), (1, .int (zI (zq.1)))]) (fun zq => [(ik, .inr (3, [.ref mx, .ref co, .int (zI (0))])), ia G mx 32 (mix0 zq.1), ia G co 8 (seg0 0 (-1) 8)]) (fun zq => (4 - zq.1).toNat) ?_ (0, ls) ⟨by refine ⟨?_, ?_⟩ <;> omega, lv_sub hl [1, 0] rfl⟩ hP hD hS
    intro zq H locs hq hP hD hS ih
    obtain ⟨k2, ls⟩ := zq
    obtain ⟨hI, hl⟩ := hq
    try dsimp only at hI hl ih hP hD ⊢
    have hP : zP G ([(ik, .inr (3, [.ref mx, .ref co, .int (zI (0))])), ia G mx 32 (mix0 k2), ia G co 8 (seg0 0 (-1) 8)]) H := hP
    have hD : va_D A ([(ik, .inr (3, [.ref mx, .ref co, .int (zI (0))])), ia G mx 32 (mix0 k2), ia G co 8 (seg0 0 (-1) 8)]) := hD
    have ih43 := ih
    refine lv_iload_n hx hb dX2_init_43 rfl (lv_at hl 1 rfl) ?_
    refine z_iconst hx hb dX2_init_44 ?_
    refine z_icmp_ge (tgt := 67) hx hb dX2_init_45 (by decide) (by omega) (by omega) (fun h45 => ?_) (fun h45 => ?_)
    · skip
      have hk9 : k2 = 4 := by omega
      rw [hk9] at hP hD
      refine lv_aload_n hx hb dX2_init_67 rfl (lv_at hl 0 rfl) ?_
      refine z_iconst hx hb dX2_init_68 ?_
      refine pf_X2_18 (ws' := [(ik, .inr (3, [.ref mx, .ref co, .int (zI (4))])), ia G mx 32 (mix0 4), ia G co 8 (seg0 0 (-1) 8)]) hx hb hT hown hK hP hD hS 0 rfl (Nat.le_of_ble_eq_true rfl) rfl rfl rfl dX2_init_69 (fun H locs hP hD hS => ?_)
      exact z_wrv (mx, co) hx hb hr hlocks hK hP hD hS (trivial) dX2_init_72
    · skip
      refine lv_aload_n hx hb dX2_init_48 rfl (lv_at hl 0 rfl) ?_
      refine gf_X2_11 hx hb hT hown hK hP 0 rfl rfl dX2_init_49 ?_
      refine lv_iload_n hx hb dX2_init_52 rfl (lv_at hl 1 rfl) ?_
      refine z_iconst hx hb dX2_init_53 ?_
      refine z_imul hx hb dX2_init_54 ?_
      refine lv_iload_n hx hb dX2_init_55 rfl (lv_at hl 1 rfl) ?_
      refine z_iadd hx hb dX2_init_56 ?_
      refine z_sipush hx hb dX2_init_57 (by decide +kernel) ?_
      refine z_iast (ws' := [(ik, .inr (3, [.ref mx, .ref co, .int (zI (0))])), ia G mx 32 (zu (mix0 k2) ((k2 * 4) + k2) 255), ia G co 8 (seg0 0 (-1) 8)]) hx hb hK hP hD hS 1 rfl (⟨by omega, by omega, by omega⟩) dX2_init_60 rfl (fun H locs hP hD hS => ?_)
      rw [show (zu (mix0 k2) ((k2 * 4) + k2) 255) = (mix0 (k2 + 1)) from by rw [show k2 * 4 + k2 = 5 * k2 by omega, mix0_s (by omega)]] at hP hD
      refine lv_iinc (v := zI (k2 + (1))) (lv' := [(1, .int (zI (k2 + (1)))), (0, .ref ik)]) hx hb dX2_init_61 hl (k := 1) rfl (zI_add _ _) (by decide) rfl (fun ls hl => ?_)
      refine z_goto (tgt := 43) hx hb dX2_init_64 (by decide) ?_
      exact ih43 (k2 + 1, ls) _ _ ⟨by refine ⟨?_, ?_⟩ <;> omega, lv_sub hl [1, 0] rfl⟩ (by omega) hP hD hS
  · skip
    refine lv_aload_n hx hb dX2_init_28 rfl (lv_at hl 0 rfl) ?_
    refine gf_X2_15 hx hb hT hown hK hP 0 rfl rfl dX2_init_29 ?_
    refine lv_iload_n hx hb dX2_init_32 rfl (lv_at hl 1 rfl) ?_
    refine z_iconst hx hb dX2_init_33 ?_
    refine z_iast (ws' := [(ik, .inr (3, [.ref mx, .ref co, .int (zI (0))])), ia G mx 32 (fun _ => 0), ia G co 8 (zu (seg0 0 (-1) k) k (-1))]) hx hb hK hP hD hS 2 rfl (⟨by omega, by omega, by omega⟩) dX2_init_34 rfl (fun H locs hP hD hS => ?_)
    rw [show (zu (seg0 0 (-1) k) k (-1)) = (seg0 0 (-1) (k + 1)) from seg0_s (by omega)] at hP hD
    refine lv_iinc (v := zI (k + (1))) (lv' := [(1, .int (zI (k + (1)))), (0, .ref ik)]) hx hb dX2_init_35 hl (k := 1) rfl (zI_add _ _) (by decide) rfl (fun ls hl => ?_)
    refine z_goto (tgt := 22) hx hb dX2_init_38 (by decide) ?_
    exact ih22 (k + 1, ls) _ _ ⟨by refine ⟨?_, ?_⟩ <;> omega, lv_sub hl [1, 0] rfl⟩ (by omega) hP hD hS

set_option maxHeartbeats 4000000 in
set_option maxRecDepth 100000 in
theorem c_X3_init (l : Launch) (G : zG) (pg : Nat) (w h : Int) (hw : 1 ≤ w ∧ w ≤ 16) (hh : 1 ≤ h ∧ h ≤ 12) : zWv l yX3_init cX3_init 3 { frames := 2, cells := 4, slots := 1579, locals := 33 } G [.ref pg, .int (zI (w)), .int (zI (h))] ([(pg, .inr (4, [.int (zI (0)), .int (zI (0)), .int (zI (0)), .null, .null, .int (zI (0)), .int (zI (0))]))]) (S := Nat × Nat × Nat × Nat) (fun u => True) (fun u => pgL G pg u.1 u.2.1 u.2.2.1 u.2.2.2 w h (w * h) 4 2040 1 (mix0 4) (seg0 0 (-1) 8) (fun _ => 0)) := by
  intro sz
  refine Met.ofW (cc := cX3_init) (maxL := 3) (ret := none) (by decide) rfl ?_
  intro p e s m args below meth c s₁ B hml hv
  obtain ⟨rfl, hsz, hP, hK, hD0⟩ := hv
  have hx := B.exec
  have hb := B.bytes
  have hr := B.returns
  have hT : ∀ w ∈ TB, w.before _ s = true := fun w h => atoms_spec (ws := Cond.code yX3_init cX3_init 3 none :: TB) B.pre w (List.mem_cons_of_mem _ h)
  have hown : s.vm.findClass RX3 = some m.cls := findClass_of_methodNamed B.named
  have hlocks := B.notSynchronized
  have hin : meth.name = "<init>" := (name_of_methodNamed B.named B.method).1
  subst hsz
  have hD := hD0.self (sz := s.heap.size)
  generalize hAe : va_A ([(pg, .inr (4, [.int (zI (0)), .int (zI (0)), .int (zI (0)), .null, .null, .int (zI (0)), .int (zI (0))]))]) s.heap.size = A at hD ⊢
  have hA : ∀ q : Nat, s.heap.size ≤ q → A q := fun q h => by rw [← hAe]; exact Or.inr h
  have hS : va_S A s.heap s.heap [] := va_S.rf
  have hP : zP G ([(pg, .inr (4, [.int (zI (0)), .int (zI (0)), .int (zI (0)), .null, .null, .int (zI (0)), .int (zI (0))]))]) s.heap := hP
  have hD : va_D A ([(pg, .inr (4, [.int (zI (0)), .int (zI (0)), .int (zI (0)), .null, .null, .int (zI (0)), .int (zI (0))]))]) := hD
  have hl := lv_entry ([.ref pg, .int (zI (w)), .int (zI (h))]) (n := 3) (Nat.le_of_ble_eq_true rfl)
  rw [lg_entry_eq]
  generalize (lg_sl ([.ref pg, .int (zI (w)), .int (zI (h))]) ++ List.replicate (3 - (lg_sl ([.ref pg, .int (zI (w)), .int (zI (h))])).length) Slot.unset).toArray = ls at hl ⊢
  have hl : lv_has ls 3 [(0, .ref pg), (1, .int (zI (w))), (2, .int (zI (h)))] := hl
  have h1 := mul_b (a := w - 1) (b := h) (A := 15) (B := 12) (by omega) (by omega)
  have h2 : (w - 1) * h = w * h - h := by rw [Int.sub_mul, Int.one_mul]
  have hpt : 1 ≤ w * h ∧ w * h ≤ 192 := by omega
  refine lv_aload_n hx hb dX3_init_0 rfl (lv_at hl 0 rfl) ?_
  refine W.objInit hx hb hown (hT _ (mT 63 (by decide +kernel) rfl)) (hT _ (mT 50 (by decide +kernel) rfl)) (hT _ (mT 51 (by decide +kernel) rfl)) rfl (by rw [hml]; exact hl.1) rfl dX3_init_1 (Nat.le_of_ble_eq_true rfl) (Nat.le_of_ble_eq_true rfl) ?_
  refine W.eq (g2 := F0 m 4 ls []) rfl ?_
  refine lv_aload_n hx hb dX3_init_4 rfl (lv_at hl 0 rfl) ?_
  refine va_new (D := G.1) (ci := 3) (fs := [.null, .null, .int (zI (0))]) (C := RX2) (T := TX2) (N := 3) hx hb hT inT_X2 tyX2 tyX2_ok hown (hT _ (mT 64 (by decide +kernel) rfl)) (hT _ (mT 65 (by decide +kernel) rfl)) (hT _ (mT 32 (by decide +kernel) rfl)) hK hP hD hS hA rfl (fun j hj => by rcases (show j = 0 ∨ j = 1 ∨ j = 2 by omega) with rfl | rfl | rfl <;> rfl) (Nat.le_of_ble_eq_true rfl) (Nat.le_of_ble_eq_true rfl) dX3_init_5 (fun ik H hP hD hS => ?_)
  have hP : zP G ([(pg, .inr (4, [.int (zI (0)), .int (zI (0)), .int (zI (0)), .null, .null, .int (zI (0)), .int (zI (0))])), (ik, .inr (3, [.null, .null, .int (zI (0))]))]) H := hP
  have hD : va_D A ([(pg, .inr (4, [.int (zI (0)), .int (zI (0)), .int (zI (0)), .null, .null, .int (zI (0)), .int (zI (0))])), (ik, .inr (3, [.null, .null, .int (zI (0))]))]) := hD
  refine W.widen (k := 1) (n := 3) (Nat.le_of_ble_eq_true rfl) (Nat.le_of_ble_eq_true rfl) ?_
  refine lv_dup hx hb dX3_init_8 rfl ?_
  refine z_wI (G := G) (X := [(pg, .inr (4, [.int (zI (0)), .int (zI (0)), .int (zI (0)), .null, .null, .int (zI (0)), .int (zI (0))])), (ik, .inr (3, [.null, .null, .int (zI (0))]))]) (pl := []) (As := []) (rest := [.ref ik, .ref pg]) hx hb hml hown hT hK (c_X2_init l G ik) kc_X3_13 ⟨Nat.le_of_ble_eq_true rfl, Nat.le_of_ble_eq_true rfl⟩ ⟨Nat.le_of_ble_eq_true rfl, Nat.le_of_ble_eq_true rfl⟩ hP hD hS hA [1] [0] (wr := [(pg, .inr (4, [.int (zI (0)), .int (zI (0)), .int (zI (0)), .null, .null, .int (zI (0)), .int (zI (0))]))]) rfl rfl rfl rfl (by decide) rfl hl.1 rfl (Nat.le_of_ble_eq_true rfl) dX3_init_9 (fun u9 H locs hok9 hP hD hS => ?_)
  obtain ⟨mx, co⟩ := u9
  have hP : zP G ([(pg, .inr (4, [.int (zI (0)), .int (zI (0)), .int (zI (0)), .null, .null, .int (zI (0)), .int (zI (0))])), (ik, .inr (3, [.ref mx, .ref co, .int (zI (4))])), ia G mx 32 (mix0 4), ia G co 8 (seg0 0 (-1) 8)]) H := hP
  have hD : va_D A ([(pg, .inr (4, [.int (zI (0)), .int (zI (0)), .int (zI (0)), .null, .null, .int (zI (0)), .int (zI (0))])), (ik, .inr (3, [.ref mx, .ref co, .int (zI (4))])), ia G mx 32 (mix0 4), ia G co 8 (seg0 0 (-1) 8)]) := hD
  refine W.widen (k := 3) (n := 43) (Nat.le_of_ble_eq_true rfl) (Nat.le_of_ble_eq_true rfl) ?_
  refine pf_X3_14 (ws' := [(pg, .inr (4, [.int (zI (0)), .int (zI (0)), .int (zI (0)), .ref ik, .null, .int (zI (0)), .int (zI (0))])), (ik, .inr (3, [.ref mx, .ref co, .int (zI (4))])), ia G mx 32 (mix0 4), ia G co 8 (seg0 0 (-1) 8)]) hx hb hT hown hin hK hP hD hS 0 rfl (Nat.le_of_ble_eq_true rfl) rfl rfl rfl dX3_init_12 (fun H locs hP hD hS => ?_)
  refine lv_aload_n hx hb dX3_init_15 rfl (lv_at hl 0 rfl) ?_
  refine z_sipush hx hb dX3_init_16 (by decide +kernel) ?_
  refine pf_X3_18 (ws' := [(pg, .inr (4, [.int (zI (0)), .int (zI (0)), .int (zI (0)), .ref ik, .null, .int (zI (2040)), .int (zI (0))])), (ik, .inr (3, [.ref mx, .ref co, .int (zI (4))])), ia G mx 32 (mix0 4), ia G co 8 (seg0 0 (-1) 8)]) hx hb hT hown hK hP hD hS 0 rfl (Nat.le_of_ble_eq_true rfl) rfl rfl rfl dX3_init_19 (fun H locs hP hD hS => ?_)
  refine lv_aload_n hx hb dX3_init_22 rfl (lv_at hl 0 rfl) ?_
  refine z_iconst hx hb dX3_init_23 ?_
  refine pf_X3_22 (ws' := [(pg, .inr (4, [.int (zI (0)), .int (zI (0)), .int (zI (0)), .ref ik, .null, .int (zI (2040)), .int (zI (1))])), (ik, .inr (3, [.ref mx, .ref co, .int (zI (4))])), ia G mx 32 (mix0 4), ia G co 8 (seg0 0 (-1) 8)]) hx hb hT hown hK hP hD hS 0 rfl (Nat.le_of_ble_eq_true rfl) rfl rfl rfl dX3_init_24 (fun H locs hP hD hS => ?_)
  refine lv_aload_n hx hb dX3_init_27 rfl (lv_at hl 0 rfl) ?_
  refine lv_iload_n hx hb dX3_init_28 rfl (lv_at hl 1 rfl) ?_
  refine pf_X3_25 (ws' := [(pg, .inr (4, [.int (zI (w)), .int (zI (0)), .int (zI (0)), .ref ik, .null, .int (zI (2040)), .int (zI (1))])), (ik, .inr (3, [.ref mx, .ref co, .int (zI (4))])), ia G mx 32 (mix0 4), ia G co 8 (seg0 0 (-1) 8)]) hx hb hT hown hin hK hP hD hS 0 rfl (Nat.le_of_ble_eq_true rfl) rfl rfl rfl dX3_init_29 (fun H locs hP hD hS => ?_)
  refine lv_aload_n hx hb dX3_init_32 rfl (lv_at hl 0 rfl) ?_
  refine lv_iload_n hx hb dX3_init_33 rfl (lv_at hl 2 rfl) ?_
  refine pf_X3_28 (ws' := [(pg, .inr (4, [.int (zI (w)), .int (zI (h)), .int (zI (0)), .ref ik, .null, .int (zI (2040)), .int (zI (1))])), (ik, .inr (3, [.ref mx, .ref co, .int (zI (4))])), ia G mx 32 (mix0 4), ia G co 8 (seg0 0 (-1) 8)]) hx hb hT hown hin hK hP hD hS 0 rfl (Nat.le_of_ble_eq_true rfl) rfl rfl rfl dX3_init_34 (fun H locs hP hD hS => ?_)
  refine lv_aload_n hx hb dX3_init_37 rfl (lv_at hl 0 rfl) ?_
  refine lv_iload_n hx hb dX3_init_38 rfl (lv_at hl 1 rfl) ?_
  refine lv_iload_n hx hb dX3_init_39 rfl (lv_at hl 2 rfl) ?_
  refine z_imul hx hb dX3_init_40 ?_
  refine pf_X3_31 (ws' := [(pg, .inr (4, [.int (zI (w)), .int (zI (h)), .int (zI ((w * h))), .ref ik, .null, .int (zI (2040)), .int (zI (1))])), (ik, .inr (3, [.ref mx, .ref co, .int (zI (4))])), ia G mx 32 (mix0 4), ia G co 8 (seg0 0 (-1) 8)]) hx hb hT hown hin hK hP hD hS 0 rfl (Nat.le_of_ble_eq_true rfl) rfl rfl rfl dX3_init_41 (fun H locs hP hD hS => ?_)
  refine lv_aload_n hx hb dX3_init_44 rfl (lv_at hl 0 rfl) ?_
  refine z_bipush hx hb dX3_init_45 (by decide +kernel) ?_
  refine lv_aload_n hx hb dX3_init_47 rfl (lv_at hl 0 rfl) ?_
  refine gf_X3_31 hx hb hT hown hK hP 0 rfl rfl dX3_init_48 ?_
  refine z_imul hx hb dX3_init_51 ?_
  refine z_newa hx hb hT hK hP hD hS hA (N := (8 * (w * h)).toNat) (by omega) (Nat.le_of_ble_eq_true rfl) (by show 43 + _ ≤ 1579; omega) dX3_init_52 (fun pa H hP hD hS => ?_)
  have hP : zP G ([(pg, .inr (4, [.int (zI (w)), .int (zI (h)), .int (zI ((w * h))), .ref ik, .null, .int (zI (2040)), .int (zI (1))])), (ik, .inr (3, [.ref mx, .ref co, .int (zI (4))])), ia G mx 32 (mix0 4), ia G co 8 (seg0 0 (-1) 8), ia G pa ((8 * (w * h)).toNat) (fun _ => 0)]) H := hP
  have hD : va_D A ([(pg, .inr (4, [.int (zI (w)), .int (zI (h)), .int (zI ((w * h))), .ref ik, .null, .int (zI (2040)), .int (zI (1))])), (ik, .inr (3, [.ref mx, .ref co, .int (zI (4))])), ia G mx 32 (mix0 4), ia G co 8 (seg0 0 (-1) 8), ia G pa ((8 * (w * h)).toNat) (fun _ => 0)]) := hD
  refine W.widen (k := 4) (n := 1579) (Nat.le_of_ble_eq_true rfl) (by omega) ?_
  refine pf_X3_34 (ws' := [(pg, .inr (4, [.int (zI (w)), .int (zI (h)), .int (zI ((w * h))), .ref ik, .ref pa, .int (zI (2040)), .int (zI (1))])), (ik, .inr (3, [.ref mx, .ref co, .int (zI (4))])), ia G mx 32 (mix0 4), ia G co 8 (seg0 0 (-1) 8), ia G pa ((8 * (w * h)).toNat) (fun _ => 0)]) hx hb hT hown hin hK hP hD hS 0 rfl (Nat.le_of_ble_eq_true rfl) rfl rfl rfl dX3_init_54 (fun H locs hP hD hS => ?_)
  exact z_wrv (ik, mx, co, pa) hx hb hr hlocks hK (hP.sub [0, 1, 4, 2, 3] rfl) (hD.sub [0, 1, 4, 2, 3] (by decide) rfl) hS (trivial) dX3_init_57

set_option maxHeartbeats 4000000 in
set_option maxRecDepth 100000 in
theorem c_X1_init (l : Launch) (G : zG) (cv : Nat)  : zWv l yX1_init cX1_init 1 { frames := 1, cells := 2, slots := 24, locals := 12 } G [.ref cv] ([(cv, .inr (2, [.null, .null, .int (zI (0))]))]) (S := Nat × Nat) (fun u => True) (fun u => cvL G cv u.1 u.2 2 (zu (fun _ => 0) 1 255) (zu (fun _ => 0) 1 255)) := by
  intro sz
  refine Met.ofW (cc := cX1_init) (maxL := 1) (ret := none) (by decide) rfl ?_
  intro p e s m args below meth c s₁ B hml hv
  obtain ⟨rfl, hsz, hP, hK, hD0⟩ := hv
  have hx := B.exec
  have hb := B.bytes
  have hr := B.returns
  have hT : ∀ w ∈ TB, w.before _ s = true := fun w h => atoms_spec (ws := Cond.code yX1_init cX1_init 1 none :: TB) B.pre w (List.mem_cons_of_mem _ h)
  have hown : s.vm.findClass RX1 = some m.cls := findClass_of_methodNamed B.named
  have hlocks := B.notSynchronized
  have hin : meth.name = "<init>" := (name_of_methodNamed B.named B.method).1
  subst hsz
  have hD := hD0.self (sz := s.heap.size)
  generalize hAe : va_A ([(cv, .inr (2, [.null, .null, .int (zI (0))]))]) s.heap.size = A at hD ⊢
  have hA : ∀ q : Nat, s.heap.size ≤ q → A q := fun q h => by rw [← hAe]; exact Or.inr h
  have hS : va_S A s.heap s.heap [] := va_S.rf
  have hP : zP G ([(cv, .inr (2, [.null, .null, .int (zI (0))]))]) s.heap := hP
  have hD : va_D A ([(cv, .inr (2, [.null, .null, .int (zI (0))]))]) := hD
  have hl := lv_entry ([.ref cv]) (n := 1) (Nat.le_of_ble_eq_true rfl)
  rw [lg_entry_eq]
  generalize (lg_sl ([.ref cv]) ++ List.replicate (1 - (lg_sl ([.ref cv])).length) Slot.unset).toArray = ls at hl ⊢
  have hl : lv_has ls 1 [(0, .ref cv)] := hl
  refine lv_aload_n hx hb dX1_init_0 rfl (lv_at hl 0 rfl) ?_
  refine W.objInit hx hb hown (hT _ (mT 118 (by decide +kernel) rfl)) (hT _ (mT 50 (by decide +kernel) rfl)) (hT _ (mT 51 (by decide +kernel) rfl)) rfl (by rw [hml]; exact hl.1) rfl dX1_init_1 (Nat.le_of_ble_eq_true rfl) (Nat.le_of_ble_eq_true rfl) ?_
  refine W.eq (g2 := F0 m 4 ls []) rfl ?_
  refine lv_aload_n hx hb dX1_init_4 rfl (lv_at hl 0 rfl) ?_
  refine z_bipush hx hb dX1_init_5 (by decide +kernel) ?_
  refine z_newa hx hb hT hK hP hD hS hA (N := 12) (by omega) (Nat.le_of_ble_eq_true rfl) (Nat.le_of_ble_eq_true rfl) dX1_init_7 (fun ca H hP hD hS => ?_)
  have hP : zP G ([(cv, .inr (2, [.null, .null, .int (zI (0))])), ia G ca 12 (fun _ => 0)]) H := hP
  have hD : va_D A ([(cv, .inr (2, [.null, .null, .int (zI (0))])), ia G ca 12 (fun _ => 0)]) := hD
  refine W.widen (k := 1) (n := 12) (Nat.le_of_ble_eq_true rfl) (Nat.le_of_ble_eq_true rfl) ?_
  refine pf_X1_11 (ws' := [(cv, .inr (2, [.ref ca, .null, .int (zI (0))])), ia G ca 12 (fun _ => 0)]) hx hb hT hown hin hK hP hD hS 0 rfl (Nat.le_of_ble_eq_true rfl) rfl rfl rfl dX1_init_9 (fun H locs hP hD hS => ?_)
  refine lv_aload_n hx hb dX1_init_12 rfl (lv_at hl 0 rfl) ?_
  refine z_bipush hx hb dX1_init_13 (by decide +kernel) ?_
  refine z_newa hx hb hT hK hP hD hS hA (N := 12) (by omega) (Nat.le_of_ble_eq_true rfl) (Nat.le_of_ble_eq_true rfl) dX1_init_15 (fun cb H hP hD hS => ?_)
  have hP : zP G ([(cv, .inr (2, [.ref ca, .null, .int (zI (0))])), ia G ca 12 (fun _ => 0), ia G cb 12 (fun _ => 0)]) H := hP
  have hD : va_D A ([(cv, .inr (2, [.ref ca, .null, .int (zI (0))])), ia G ca 12 (fun _ => 0), ia G cb 12 (fun _ => 0)]) := hD
  refine W.widen (k := 2) (n := 24) (Nat.le_of_ble_eq_true rfl) (Nat.le_of_ble_eq_true rfl) ?_
  refine pf_X1_15 (ws' := [(cv, .inr (2, [.ref ca, .ref cb, .int (zI (0))])), ia G ca 12 (fun _ => 0), ia G cb 12 (fun _ => 0)]) hx hb hT hown hin hK hP hD hS 0 rfl (Nat.le_of_ble_eq_true rfl) rfl rfl rfl dX1_init_17 (fun H locs hP hD hS => ?_)
  refine lv_aload_n hx hb dX1_init_20 rfl (lv_at hl 0 rfl) ?_
  refine gf_X1_11 hx hb hT hown hK hP 0 rfl rfl dX1_init_21 ?_
  refine z_iconst hx hb dX1_init_24 ?_
  refine z_sipush hx hb dX1_init_25 (by decide +kernel) ?_
  refine z_iast (ws' := [(cv, .inr (2, [.ref ca, .ref cb, .int (zI (0))])), ia G ca 12 (zu (fun _ => 0) 1 255), ia G cb 12 (fun _ => 0)]) hx hb hK hP hD hS 1 rfl (⟨by omega, by omega, by omega⟩) dX1_init_28 rfl (fun H locs hP hD hS => ?_)
  refine lv_aload_n hx hb dX1_init_29 rfl (lv_at hl 0 rfl) ?_
  refine gf_X1_15 hx hb hT hown hK hP 0 rfl rfl dX1_init_30 ?_
  refine z_iconst hx hb dX1_init_33 ?_
  refine z_sipush hx hb dX1_init_34 (by decide +kernel) ?_
  refine z_iast (ws' := [(cv, .inr (2, [.ref ca, .ref cb, .int (zI (0))])), ia G ca 12 (zu (fun _ => 0) 1 255), ia G cb 12 (zu (fun _ => 0) 1 255)]) hx hb hK hP hD hS 2 rfl (⟨by omega, by omega, by omega⟩) dX1_init_37 rfl (fun H locs hP hD hS => ?_)
  refine lv_aload_n hx hb dX1_init_38 rfl (lv_at hl 0 rfl) ?_
  refine z_iconst hx hb dX1_init_39 ?_
  refine pf_X1_18 (ws' := [(cv, .inr (2, [.ref ca, .ref cb, .int (zI (2))])), ia G ca 12 (zu (fun _ => 0) 1 255), ia G cb 12 (zu (fun _ => 0) 1 255)]) hx hb hT hown hK hP hD hS 0 rfl (Nat.le_of_ble_eq_true rfl) rfl rfl rfl dX1_init_40 (fun H locs hP hD hS => ?_)
  exact z_wrv (ca, cb) hx hb hr hlocks hK hP hD hS (trivial) dX1_init_43

set_option maxHeartbeats 4000000 in
set_option maxRecDepth 100000 in
theorem c_X5_init (l : Launch) (G : zG) (md : Nat) (x1 x2 : Int) (hx1 : -2147483648 ≤ x1 ∧ x1 ≤ 2147483647) (hx2 : -2147483648 ≤ x2 ∧ x2 ≤ 2147483647) : zWv l yX5_init cX5_init 4 { frames := 1, cells := 11, slots := 5462, locals := 12 } G [.ref md, .int (zI (x1)), .int (zI (x2))] ([(md, .inr (6, [.int (zI (0)), .int (zI (0)), .int (zI (0)), .int (zI (0)), .null, .null, .null, .int (zI (0)), .int (zI (0)), .null, .int (zI (0)), .int (zI (0)), .null, .null, .null, .null, .null, .null, .null]))]) (S := Nat × Nat × Nat × Nat × Nat × Nat × Nat × Nat × Nat × Nat × Nat) (fun u => True) (fun u => mdL G md u.1 u.2.1 u.2.2.1 u.2.2.2.1 u.2.2.2.2.1 u.2.2.2.2.2.1 u.2.2.2.2.2.2.1 u.2.2.2.2.2.2.2.1 u.2.2.2.2.2.2.2.2.1 u.2.2.2.2.2.2.2.2.2.1 u.2.2.2.2.2.2.2.2.2.2 0 (max 1 (min 16 x1)) (max 1 (min 12 x2)) 4 2040 1 2 0 (mix0 4) (fun _ => 0) (seg0 0 (-1) 8) (zu (seg0 1 (-1) 255) 255 255) (fun _ => 0) (fun _ => 0) (fun _ => 0) (fun _ => 0) (fun _ => 0) (fun _ => 0) (fun _ => 0)) := by
  intro sz
  refine Met.ofW (cc := cX5_init) (maxL := 4) (ret := none) (by decide) rfl ?_
  intro p e s m args below meth c s₁ B hml hv
  obtain ⟨rfl, hsz, hP, hK, hD0⟩ := hv
  have hx := B.exec
  have hb := B.bytes
  have hr := B.returns
  have hT : ∀ w ∈ TB, w.before _ s = true := fun w h => atoms_spec (ws := Cond.code yX5_init cX5_init 4 none :: TB) B.pre w (List.mem_cons_of_mem _ h)
  have hown : s.vm.findClass RX5 = some m.cls := findClass_of_methodNamed B.named
  have hlocks := B.notSynchronized
  have hin : meth.name = "<init>" := (name_of_methodNamed B.named B.method).1
  subst hsz
  have hD := hD0.self (sz := s.heap.size)
  generalize hAe : va_A ([(md, .inr (6, [.int (zI (0)), .int (zI (0)), .int (zI (0)), .int (zI (0)), .null, .null, .null, .int (zI (0)), .int (zI (0)), .null, .int (zI (0)), .int (zI (0)), .null, .null, .null, .null, .null, .null, .null]))]) s.heap.size = A at hD ⊢
  have hA : ∀ q : Nat, s.heap.size ≤ q → A q := fun q h => by rw [← hAe]; exact Or.inr h
  have hS : va_S A s.heap s.heap [] := va_S.rf
  have hP : zP G ([(md, .inr (6, [.int (zI (0)), .int (zI (0)), .int (zI (0)), .int (zI (0)), .null, .null, .null, .int (zI (0)), .int (zI (0)), .null, .int (zI (0)), .int (zI (0)), .null, .null, .null, .null, .null, .null, .null]))]) s.heap := hP
  have hD : va_D A ([(md, .inr (6, [.int (zI (0)), .int (zI (0)), .int (zI (0)), .int (zI (0)), .null, .null, .null, .int (zI (0)), .int (zI (0)), .null, .int (zI (0)), .int (zI (0)), .null, .null, .null, .null, .null, .null, .null]))]) := hD
  have hl := lv_entry ([.ref md, .int (zI (x1)), .int (zI (x2))]) (n := 4) (Nat.le_of_ble_eq_true rfl)
  rw [lg_entry_eq]
  generalize (lg_sl ([.ref md, .int (zI (x1)), .int (zI (x2))]) ++ List.replicate (4 - (lg_sl ([.ref md, .int (zI (x1)), .int (zI (x2))])).length) Slot.unset).toArray = ls at hl ⊢
  have hl : lv_has ls 4 [(0, .ref md), (1, .int (zI (x1))), (2, .int (zI (x2)))] := hl
  refine lv_aload_n hx hb dX5_init_0 rfl (lv_at hl 0 rfl) ?_
  refine W.objInit hx hb hown (hT _ (mT 553 (by decide +kernel) rfl)) (hT _ (mT 50 (by decide +kernel) rfl)) (hT _ (mT 51 (by decide +kernel) rfl)) rfl (by rw [hml]; exact hl.1) rfl dX5_init_1 (Nat.le_of_ble_eq_true rfl) (Nat.le_of_ble_eq_true rfl) ?_
  refine W.eq (g2 := F0 m 4 ls []) rfl ?_
  refine lv_aload_n hx hb dX5_init_4 rfl (lv_at hl 0 rfl) ?_
  refine z_iconst hx hb dX5_init_5 ?_
  refine pf_X5_7 (ws' := [(md, .inr (6, [.int (zI (0)), .int (zI (0)), .int (zI (0)), .int (zI (4)), .null, .null, .null, .int (zI (0)), .int (zI (0)), .null, .int (zI (0)), .int (zI (0)), .null, .null, .null, .null, .null, .null, .null]))]) hx hb hT hown hK hP hD hS 0 rfl (Nat.le_of_ble_eq_true rfl) rfl rfl rfl dX5_init_6 (fun H locs hP hD hS => ?_)
  refine lv_aload_n hx hb dX5_init_9 rfl (lv_at hl 0 rfl) ?_
  refine z_bipush hx hb dX5_init_10 (by decide +kernel) ?_
  refine z_newa hx hb hT hK hP hD hS hA (N := 32) (by omega) (Nat.le_of_ble_eq_true rfl) (Nat.le_of_ble_eq_true rfl) dX5_init_12 (fun ma H hP hD hS => ?_)
  have hP : zP G ([(md, .inr (6, [.int (zI (0)), .int (zI (0)), .int (zI (0)), .int (zI (4)), .null, .null, .null, .int (zI (0)), .int (zI (0)), .null, .int (zI (0)), .int (zI (0)), .null, .null, .null, .null, .null, .null, .null])), ia G ma 32 (fun _ => 0)]) H := hP
  have hD : va_D A ([(md, .inr (6, [.int (zI (0)), .int (zI (0)), .int (zI (0)), .int (zI (4)), .null, .null, .null, .int (zI (0)), .int (zI (0)), .null, .int (zI (0)), .int (zI (0)), .null, .null, .null, .null, .null, .null, .null])), ia G ma 32 (fun _ => 0)]) := hD
  refine W.widen (k := 1) (n := 32) (Nat.le_of_ble_eq_true rfl) (Nat.le_of_ble_eq_true rfl) ?_
  refine pf_X5_13 (ws' := [(md, .inr (6, [.int (zI (0)), .int (zI (0)), .int (zI (0)), .int (zI (4)), .ref ma, .null, .null, .int (zI (0)), .int (zI (0)), .null, .int (zI (0)), .int (zI (0)), .null, .null, .null, .null, .null, .null, .null])), ia G ma 32 (fun _ => 0)]) hx hb hT hown hin hK hP hD hS 0 rfl (Nat.le_of_ble_eq_true rfl) rfl rfl rfl dX5_init_14 (fun H locs hP hD hS => ?_)
  refine lv_aload_n hx hb dX5_init_17 rfl (lv_at hl 0 rfl) ?_
  refine z_sipush hx hb dX5_init_18 (by decide +kernel) ?_
  refine z_newa hx hb hT hK hP hD hS hA (N := 1536) (by omega) (Nat.le_of_ble_eq_true rfl) (Nat.le_of_ble_eq_true rfl) dX5_init_21 (fun mb H hP hD hS => ?_)
  have hP : zP G ([(md, .inr (6, [.int (zI (0)), .int (zI (0)), .int (zI (0)), .int (zI (4)), .ref ma, .null, .null, .int (zI (0)), .int (zI (0)), .null, .int (zI (0)), .int (zI (0)), .null, .null, .null, .null, .null, .null, .null])), ia G ma 32 (fun _ => 0), ia G mb 1536 (fun _ => 0)]) H := hP
  have hD : va_D A ([(md, .inr (6, [.int (zI (0)), .int (zI (0)), .int (zI (0)), .int (zI (4)), .ref ma, .null, .null, .int (zI (0)), .int (zI (0)), .null, .int (zI (0)), .int (zI (0)), .null, .null, .null, .null, .null, .null, .null])), ia G ma 32 (fun _ => 0), ia G mb 1536 (fun _ => 0)]) := hD
  refine W.widen (k := 2) (n := 1568) (Nat.le_of_ble_eq_true rfl) (Nat.le_of_ble_eq_true rfl) ?_
  refine pf_X5_17 (ws' := [(md, .inr (6, [.int (zI (0)), .int (zI (0)), .int (zI (0)), .int (zI (4)), .ref ma, .ref mb, .null, .int (zI (0)), .int (zI (0)), .null, .int (zI (0)), .int (zI (0)), .null, .null, .null, .null, .null, .null, .null])), ia G ma 32 (fun _ => 0), ia G mb 1536 (fun _ => 0)]) hx hb hT hown hin hK hP hD hS 0 rfl (Nat.le_of_ble_eq_true rfl) rfl rfl rfl dX5_init_23 (fun H locs hP hD hS => ?_)
  refine lv_aload_n hx hb dX5_init_26 rfl (lv_at hl 0 rfl) ?_
  refine z_bipush hx hb dX5_init_27 (by decide +kernel) ?_
  refine z_newa hx hb hT hK hP hD hS hA (N := 8) (by omega) (Nat.le_of_ble_eq_true rfl) (Nat.le_of_ble_eq_true rfl) dX5_init_29 (fun mc H hP hD hS => ?_)
  have hP : zP G ([(md, .inr (6, [.int (zI (0)), .int (zI (0)), .int (zI (0)), .int (zI (4)), .ref ma, .ref mb, .null, .int (zI (0)), .int (zI (0)), .null, .int (zI (0)), .int (zI (0)), .null, .null, .null, .null, .null, .null, .null])), ia G ma 32 (fun _ => 0), ia G mb 1536 (fun _ => 0), ia G mc 8 (fun _ => 0)]) H := hP
  have hD : va_D A ([(md, .inr (6, [.int (zI (0)), .int (zI (0)), .int (zI (0)), .int (zI (4)), .ref ma, .ref mb, .null, .int (zI (0)), .int (zI (0)), .null, .int (zI (0)), .int (zI (0)), .null, .null, .null, .null, .null, .null, .null])), ia G ma 32 (fun _ => 0), ia G mb 1536 (fun _ => 0), ia G mc 8 (fun _ => 0)]) := hD
  refine W.widen (k := 3) (n := 1576) (Nat.le_of_ble_eq_true rfl) (Nat.le_of_ble_eq_true rfl) ?_
  refine pf_X5_20 (ws' := [(md, .inr (6, [.int (zI (0)), .int (zI (0)), .int (zI (0)), .int (zI (4)), .ref ma, .ref mb, .ref mc, .int (zI (0)), .int (zI (0)), .null, .int (zI (0)), .int (zI (0)), .null, .null, .null, .null, .null, .null, .null])), ia G ma 32 (fun _ => 0), ia G mb 1536 (fun _ => 0), ia G mc 8 (fun _ => 0)]) hx hb hT hown hin hK hP hD hS 0 rfl (Nat.le_of_ble_eq_true rfl) rfl rfl rfl dX5_init_31 (fun H locs hP hD hS => ?_)
  refine lv_aload_n hx hb dX5_init_34 rfl (lv_at hl 0 rfl) ?_
  refine z_sipush hx hb dX5_init_35 (by decide +kernel) ?_
  refine pf_X5_23 (ws' := [(md, .inr (6, [.int (zI (0)), .int (zI (0)), .int (zI (0)), .int (zI (4)), .ref ma, .ref mb, .ref mc, .int (zI (2040)), .int (zI (0)), .null, .int (zI (0)), .int (zI (0)), .null, .null, .null, .null, .null, .null, .null])), ia G ma 32 (fun _ => 0), ia G mb 1536 (fun _ => 0), ia G mc 8 (fun _ => 0)]) hx hb hT hown hK hP hD hS 0 rfl (Nat.le_of_ble_eq_true rfl) rfl rfl rfl dX5_init_38 (fun H locs hP hD hS => ?_)
  refine lv_aload_n hx hb dX5_init_41 rfl (lv_at hl 0 rfl) ?_
  refine z_iconst hx hb dX5_init_42 ?_
  refine pf_X5_26 (ws' := [(md, .inr (6, [.int (zI (0)), .int (zI (0)), .int (zI (0)), .int (zI (4)), .ref ma, .ref mb, .ref mc, .int (zI (2040)), .int (zI (1)), .null, .int (zI (0)), .int (zI (0)), .null, .null, .null, .null, .null, .null, .null])), ia G ma 32 (fun _ => 0), ia G mb 1536 (fun _ => 0), ia G mc 8 (fun _ => 0)]) hx hb hT hown hK hP hD hS 0 rfl (Nat.le_of_ble_eq_true rfl) rfl rfl rfl dX5_init_43 (fun H locs hP hD hS => ?_)
  refine lv_aload_n hx hb dX5_init_46 rfl (lv_at hl 0 rfl) ?_
  refine z_sipush hx hb dX5_init_47 (by decide +kernel) ?_
  refine z_newa hx hb hT hK hP hD hS hA (N := 256) (by omega) (Nat.le_of_ble_eq_true rfl) (Nat.le_of_ble_eq_true rfl) dX5_init_50 (fun mt H hP hD hS => ?_)
  have hP : zP G ([(md, .inr (6, [.int (zI (0)), .int (zI (0)), .int (zI (0)), .int (zI (4)), .ref ma, .ref mb, .ref mc, .int (zI (2040)), .int (zI (1)), .null, .int (zI (0)), .int (zI (0)), .null, .null, .null, .null, .null, .null, .null])), ia G ma 32 (fun _ => 0), ia G mb 1536 (fun _ => 0), ia G mc 8 (fun _ => 0), ia G mt 256 (fun _ => 0)]) H := hP
  have hD : va_D A ([(md, .inr (6, [.int (zI (0)), .int (zI (0)), .int (zI (0)), .int (zI (4)), .ref ma, .ref mb, .ref mc, .int (zI (2040)), .int (zI (1)), .null, .int (zI (0)), .int (zI (0)), .null, .null, .null, .null, .null, .null, .null])), ia G ma 32 (fun _ => 0), ia G mb 1536 (fun _ => 0), ia G mc 8 (fun _ => 0), ia G mt 256 (fun _ => 0)]) := hD
  refine W.widen (k := 4) (n := 1832) (Nat.le_of_ble_eq_true rfl) (Nat.le_of_ble_eq_true rfl) ?_
  refine pf_X5_29 (ws' := [(md, .inr (6, [.int (zI (0)), .int (zI (0)), .int (zI (0)), .int (zI (4)), .ref ma, .ref mb, .ref mc, .int (zI (2040)), .int (zI (1)), .ref mt, .int (zI (0)), .int (zI (0)), .null, .null, .null, .null, .null, .null, .null])), ia G ma 32 (fun _ => 0), ia G mb 1536 (fun _ => 0), ia G mc 8 (fun _ => 0), ia G mt 256 (fun _ => 0)]) hx hb hT hown hin hK hP hD hS 0 rfl (Nat.le_of_ble_eq_true rfl) rfl rfl rfl dX5_init_52 (fun H locs hP hD hS => ?_)
  refine lv_aload_n hx hb dX5_init_55 rfl (lv_at hl 0 rfl) ?_
  refine z_iconst hx hb dX5_init_56 ?_
  refine pf_X5_32 (ws' := [(md, .inr (6, [.int (zI (0)), .int (zI (0)), .int (zI (0)), .int (zI (4)), .ref ma, .ref mb, .ref mc, .int (zI (2040)), .int (zI (1)), .ref mt, .int (zI (2)), .int (zI (0)), .null, .null, .null, .null, .null, .null, .null])), ia G ma 32 (fun _ => 0), ia G mb 1536 (fun _ => 0), ia G mc 8 (fun _ => 0), ia G mt 256 (fun _ => 0)]) hx hb hT hown hK hP hD hS 0 rfl (Nat.le_of_ble_eq_true rfl) rfl rfl rfl dX5_init_57 (fun H locs hP hD hS => ?_)
  refine lv_aload_n hx hb dX5_init_60 rfl (lv_at hl 0 rfl) ?_
  refine z_bipush hx hb dX5_init_61 (by decide +kernel) ?_
  refine z_newa hx hb hT hK hP hD hS hA (N := 6) (by omega) (Nat.le_of_ble_eq_true rfl) (Nat.le_of_ble_eq_true rfl) dX5_init_63 (fun m1 H hP hD hS => ?_)
  have hP : zP G ([(md, .inr (6, [.int (zI (0)), .int (zI (0)), .int (zI (0)), .int (zI (4)), .ref ma, .ref mb, .ref mc, .int (zI (2040)), .int (zI (1)), .ref mt, .int (zI (2)), .int (zI (0)), .null, .null, .null, .null, .null, .null, .null])), ia G ma 32 (fun _ => 0), ia G mb 1536 (fun _ => 0), ia G mc 8 (fun _ => 0), ia G mt 256 (fun _ => 0), ia G m1 6 (fun _ => 0)]) H := hP
  have hD : va_D A ([(md, .inr (6, [.int (zI (0)), .int (zI (0)), .int (zI (0)), .int (zI (4)), .ref ma, .ref mb, .ref mc, .int (zI (2040)), .int (zI (1)), .ref mt, .int (zI (2)), .int (zI (0)), .null, .null, .null, .null, .null, .null, .null])), ia G ma 32 (fun _ => 0), ia G mb 1536 (fun _ => 0), ia G mc 8 (fun _ => 0), ia G mt 256 (fun _ => 0), ia G m1 6 (fun _ => 0)]) := hD
  refine W.widen (k := 5) (n := 1838) (Nat.le_of_ble_eq_true rfl) (Nat.le_of_ble_eq_true rfl) ?_
  refine pf_X5_35 (ws' := [(md, .inr (6, [.int (zI (0)), .int (zI (0)), .int (zI (0)), .int (zI (4)), .ref ma, .ref mb, .ref mc, .int (zI (2040)), .int (zI (1)), .ref mt, .int (zI (2)), .int (zI (0)), .ref m1, .null, .null, .null, .null, .null, .null])), ia G ma 32 (fun _ => 0), ia G mb 1536 (fun _ => 0), ia G mc 8 (fun _ => 0), ia G mt 256 (fun _ => 0), ia G m1 6 (fun _ => 0)]) hx hb hT hown hin hK hP hD hS 0 rfl (Nat.le_of_ble_eq_true rfl) rfl rfl rfl dX5_init_65 (fun H locs hP hD hS => ?_)
  refine lv_aload_n hx hb dX5_init_68 rfl (lv_at hl 0 rfl) ?_
  refine z_bipush hx hb dX5_init_69 (by decide +kernel) ?_
  refine z_newa hx hb hT hK hP hD hS hA (N := 6) (by omega) (Nat.le_of_ble_eq_true rfl) (Nat.le_of_ble_eq_true rfl) dX5_init_71 (fun m2 H hP hD hS => ?_)
  have hP : zP G ([(md, .inr (6, [.int (zI (0)), .int (zI (0)), .int (zI (0)), .int (zI (4)), .ref ma, .ref mb, .ref mc, .int (zI (2040)), .int (zI (1)), .ref mt, .int (zI (2)), .int (zI (0)), .ref m1, .null, .null, .null, .null, .null, .null])), ia G ma 32 (fun _ => 0), ia G mb 1536 (fun _ => 0), ia G mc 8 (fun _ => 0), ia G mt 256 (fun _ => 0), ia G m1 6 (fun _ => 0), ia G m2 6 (fun _ => 0)]) H := hP
  have hD : va_D A ([(md, .inr (6, [.int (zI (0)), .int (zI (0)), .int (zI (0)), .int (zI (4)), .ref ma, .ref mb, .ref mc, .int (zI (2040)), .int (zI (1)), .ref mt, .int (zI (2)), .int (zI (0)), .ref m1, .null, .null, .null, .null, .null, .null])), ia G ma 32 (fun _ => 0), ia G mb 1536 (fun _ => 0), ia G mc 8 (fun _ => 0), ia G mt 256 (fun _ => 0), ia G m1 6 (fun _ => 0), ia G m2 6 (fun _ => 0)]) := hD
  refine W.widen (k := 6) (n := 1844) (Nat.le_of_ble_eq_true rfl) (Nat.le_of_ble_eq_true rfl) ?_
  refine pf_X5_38 (ws' := [(md, .inr (6, [.int (zI (0)), .int (zI (0)), .int (zI (0)), .int (zI (4)), .ref ma, .ref mb, .ref mc, .int (zI (2040)), .int (zI (1)), .ref mt, .int (zI (2)), .int (zI (0)), .ref m1, .ref m2, .null, .null, .null, .null, .null])), ia G ma 32 (fun _ => 0), ia G mb 1536 (fun _ => 0), ia G mc 8 (fun _ => 0), ia G mt 256 (fun _ => 0), ia G m1 6 (fun _ => 0), ia G m2 6 (fun _ => 0)]) hx hb hT hown hin hK hP hD hS 0 rfl (Nat.le_of_ble_eq_true rfl) rfl rfl rfl dX5_init_73 (fun H locs hP hD hS => ?_)
  refine lv_aload_n hx hb dX5_init_76 rfl (lv_at hl 0 rfl) ?_
  refine z_bipush hx hb dX5_init_77 (by decide +kernel) ?_
  refine z_newa hx hb hT hK hP hD hS hA (N := 6) (by omega) (Nat.le_of_ble_eq_true rfl) (Nat.le_of_ble_eq_true rfl) dX5_init_79 (fun m3 H hP hD hS => ?_)
  have hP : zP G ([(md, .inr (6, [.int (zI (0)), .int (zI (0)), .int (zI (0)), .int (zI (4)), .ref ma, .ref mb, .ref mc, .int (zI (2040)), .int (zI (1)), .ref mt, .int (zI (2)), .int (zI (0)), .ref m1, .ref m2, .null, .null, .null, .null, .null])), ia G ma 32 (fun _ => 0), ia G mb 1536 (fun _ => 0), ia G mc 8 (fun _ => 0), ia G mt 256 (fun _ => 0), ia G m1 6 (fun _ => 0), ia G m2 6 (fun _ => 0), ia G m3 6 (fun _ => 0)]) H := hP
  have hD : va_D A ([(md, .inr (6, [.int (zI (0)), .int (zI (0)), .int (zI (0)), .int (zI (4)), .ref ma, .ref mb, .ref mc, .int (zI (2040)), .int (zI (1)), .ref mt, .int (zI (2)), .int (zI (0)), .ref m1, .ref m2, .null, .null, .null, .null, .null])), ia G ma 32 (fun _ => 0), ia G mb 1536 (fun _ => 0), ia G mc 8 (fun _ => 0), ia G mt 256 (fun _ => 0), ia G m1 6 (fun _ => 0), ia G m2 6 (fun _ => 0), ia G m3 6 (fun _ => 0)]) := hD
  refine W.widen (k := 7) (n := 1850) (Nat.le_of_ble_eq_true rfl) (Nat.le_of_ble_eq_true rfl) ?_
  refine pf_X5_41 (ws' := [(md, .inr (6, [.int (zI (0)), .int (zI (0)), .int (zI (0)), .int (zI (4)), .ref ma, .ref mb, .ref mc, .int (zI (2040)), .int (zI (1)), .ref mt, .int (zI (2)), .int (zI (0)), .ref m1, .ref m2, .ref m3, .null, .null, .null, .null])), ia G ma 32 (fun _ => 0), ia G mb 1536 (fun _ => 0), ia G mc 8 (fun _ => 0), ia G mt 256 (fun _ => 0), ia G m1 6 (fun _ => 0), ia G m2 6 (fun _ => 0), ia G m3 6 (fun _ => 0)]) hx hb hT hown hin hK hP hD hS 0 rfl (Nat.le_of_ble_eq_true rfl) rfl rfl rfl dX5_init_81 (fun H locs hP hD hS => ?_)
  refine lv_aload_n hx hb dX5_init_84 rfl (lv_at hl 0 rfl) ?_
  refine z_bipush hx hb dX5_init_85 (by decide +kernel) ?_
  refine z_newa hx hb hT hK hP hD hS hA (N := 6) (by omega) (Nat.le_of_ble_eq_true rfl) (Nat.le_of_ble_eq_true rfl) dX5_init_87 (fun m4 H hP hD hS => ?_)
  have hP : zP G ([(md, .inr (6, [.int (zI (0)), .int (zI (0)), .int (zI (0)), .int (zI (4)), .ref ma, .ref mb, .ref mc, .int (zI (2040)), .int (zI (1)), .ref mt, .int (zI (2)), .int (zI (0)), .ref m1, .ref m2, .ref m3, .null, .null, .null, .null])), ia G ma 32 (fun _ => 0), ia G mb 1536 (fun _ => 0), ia G mc 8 (fun _ => 0), ia G mt 256 (fun _ => 0), ia G m1 6 (fun _ => 0), ia G m2 6 (fun _ => 0), ia G m3 6 (fun _ => 0), ia G m4 6 (fun _ => 0)]) H := hP
  have hD : va_D A ([(md, .inr (6, [.int (zI (0)), .int (zI (0)), .int (zI (0)), .int (zI (4)), .ref ma, .ref mb, .ref mc, .int (zI (2040)), .int (zI (1)), .ref mt, .int (zI (2)), .int (zI (0)), .ref m1, .ref m2, .ref m3, .null, .null, .null, .null])), ia G ma 32 (fun _ => 0), ia G mb 1536 (fun _ => 0), ia G mc 8 (fun _ => 0), ia G mt 256 (fun _ => 0), ia G m1 6 (fun _ => 0), ia G m2 6 (fun _ => 0), ia G m3 6 (fun _ => 0), ia G m4 6 (fun _ => 0)]) := hD
  refine W.widen (k := 8) (n := 1856) (Nat.le_of_ble_eq_true rfl) (Nat.le_of_ble_eq_true rfl) ?_
  refine pf_X5_44 (ws' := [(md, .inr (6, [.int (zI (0)), .int (zI (0)), .int (zI (0)), .int (zI (4)), .ref ma, .ref mb, .ref mc, .int (zI (2040)), .int (zI (1)), .ref mt, .int (zI (2)), .int (zI (0)), .ref m1, .ref m2, .ref m3, .ref m4, .null, .null, .null])), ia G ma 32 (fun _ => 0), ia G mb 1536 (fun _ => 0), ia G mc 8 (fun _ => 0), ia G mt 256 (fun _ => 0), ia G m1 6 (fun _ => 0), ia G m2 6 (fun _ => 0), ia G m3 6 (fun _ => 0), ia G m4 6 (fun _ => 0)]) hx hb hT hown hin hK hP hD hS 0 rfl (Nat.le_of_ble_eq_true rfl) rfl rfl rfl dX5_init_89 (fun H locs hP hD hS => ?_)
  refine lv_aload_n hx hb dX5_init_92 rfl (lv_at hl 0 rfl) ?_
  refine z_bipush hx hb dX5_init_93 (by decide +kernel) ?_
  refine z_newa hx hb hT hK hP hD hS hA (N := 6) (by omega) (Nat.le_of_ble_eq_true rfl) (Nat.le_of_ble_eq_true rfl) dX5_init_95 (fun m5 H hP hD hS => ?_)
  have hP : zP G ([(md, .inr (6, [.int (zI (0)), .int (zI (0)), .int (zI (0)), .int (zI (4)), .ref ma, .ref mb, .ref mc, .int (zI (2040)), .int (zI (1)), .ref mt, .int (zI (2)), .int (zI (0)), .ref m1, .ref m2, .ref m3, .ref m4, .null, .null, .null])), ia G ma 32 (fun _ => 0), ia G mb 1536 (fun _ => 0), ia G mc 8 (fun _ => 0), ia G mt 256 (fun _ => 0), ia G m1 6 (fun _ => 0), ia G m2 6 (fun _ => 0), ia G m3 6 (fun _ => 0), ia G m4 6 (fun _ => 0), ia G m5 6 (fun _ => 0)]) H := hP
  have hD : va_D A ([(md, .inr (6, [.int (zI (0)), .int (zI (0)), .int (zI (0)), .int (zI (4)), .ref ma, .ref mb, .ref mc, .int (zI (2040)), .int (zI (1)), .ref mt, .int (zI (2)), .int (zI (0)), .ref m1, .ref m2, .ref m3, .ref m4, .null, .null, .null])), ia G ma 32 (fun _ => 0), ia G mb 1536 (fun _ => 0), ia G mc 8 (fun _ => 0), ia G mt 256 (fun _ => 0), ia G m1 6 (fun _ => 0), ia G m2 6 (fun _ => 0), ia G m3 6 (fun _ => 0), ia G m4 6 (fun _ => 0), ia G m5 6 (fun _ => 0)]) := hD
  refine W.widen (k := 9) (n := 1862) (Nat.le_of_ble_eq_true rfl) (Nat.le_of_ble_eq_true rfl) ?_
  refine pf_X5_47 (ws' := [(md, .inr (6, [.int (zI (0)), .int (zI (0)), .int (zI (0)), .int (zI (4)), .ref ma, .ref mb, .ref mc, .int (zI (2040)), .int (zI (1)), .ref mt, .int (zI (2)), .int (zI (0)), .ref m1, .ref m2, .ref m3, .ref m4, .ref m5, .null, .null])), ia G ma 32 (fun _ => 0), ia G mb 1536 (fun _ => 0), ia G mc 8 (fun _ => 0), ia G mt 256 (fun _ => 0), ia G m1 6 (fun _ => 0), ia G m2 6 (fun _ => 0), ia G m3 6 (fun _ => 0), ia G m4 6 (fun _ => 0), ia G m5 6 (fun _ => 0)]) hx hb hT hown hin hK hP hD hS 0 rfl (Nat.le_of_ble_eq_true rfl) rfl rfl rfl dX5_init_97 (fun H locs hP hD hS => ?_)
  refine lv_aload_n hx hb dX5_init_100 rfl (lv_at hl 0 rfl) ?_
  refine z_sipush hx hb dX5_init_101 (by decide +kernel) ?_
  refine z_newa hx hb hT hK hP hD hS hA (N := 1800) (by omega) (Nat.le_of_ble_eq_true rfl) (Nat.le_of_ble_eq_true rfl) dX5_init_104 (fun m6 H hP hD hS => ?_)
  have hP : zP G ([(md, .inr (6, [.int (zI (0)), .int (zI (0)), .int (zI (0)), .int (zI (4)), .ref ma, .ref mb, .ref mc, .int (zI (2040)), .int (zI (1)), .ref mt, .int (zI (2)), .int (zI (0)), .ref m1, .ref m2, .ref m3, .ref m4, .ref m5, .null, .null])), ia G ma 32 (fun _ => 0), ia G mb 1536 (fun _ => 0), ia G mc 8 (fun _ => 0), ia G mt 256 (fun _ => 0), ia G m1 6 (fun _ => 0), ia G m2 6 (fun _ => 0), ia G m3 6 (fun _ => 0), ia G m4 6 (fun _ => 0), ia G m5 6 (fun _ => 0), ia G m6 1800 (fun _ => 0)]) H := hP
  have hD : va_D A ([(md, .inr (6, [.int (zI (0)), .int (zI (0)), .int (zI (0)), .int (zI (4)), .ref ma, .ref mb, .ref mc, .int (zI (2040)), .int (zI (1)), .ref mt, .int (zI (2)), .int (zI (0)), .ref m1, .ref m2, .ref m3, .ref m4, .ref m5, .null, .null])), ia G ma 32 (fun _ => 0), ia G mb 1536 (fun _ => 0), ia G mc 8 (fun _ => 0), ia G mt 256 (fun _ => 0), ia G m1 6 (fun _ => 0), ia G m2 6 (fun _ => 0), ia G m3 6 (fun _ => 0), ia G m4 6 (fun _ => 0), ia G m5 6 (fun _ => 0), ia G m6 1800 (fun _ => 0)]) := hD
  refine W.widen (k := 10) (n := 3662) (Nat.le_of_ble_eq_true rfl) (Nat.le_of_ble_eq_true rfl) ?_
  refine pf_X5_50 (ws' := [(md, .inr (6, [.int (zI (0)), .int (zI (0)), .int (zI (0)), .int (zI (4)), .ref ma, .ref mb, .ref mc, .int (zI (2040)), .int (zI (1)), .ref mt, .int (zI (2)), .int (zI (0)), .ref m1, .ref m2, .ref m3, .ref m4, .ref m5, .ref m6, .null])), ia G ma 32 (fun _ => 0), ia G mb 1536 (fun _ => 0), ia G mc 8 (fun _ => 0), ia G mt 256 (fun _ => 0), ia G m1 6 (fun _ => 0), ia G m2 6 (fun _ => 0), ia G m3 6 (fun _ => 0), ia G m4 6 (fun _ => 0), ia G m5 6 (fun _ => 0), ia G m6 1800 (fun _ => 0)]) hx hb hT hown hin hK hP hD hS 0 rfl (Nat.le_of_ble_eq_true rfl) rfl rfl rfl dX5_init_106 (fun H locs hP hD hS => ?_)
  refine lv_aload_n hx hb dX5_init_109 rfl (lv_at hl 0 rfl) ?_
  refine z_sipush hx hb dX5_init_110 (by decide +kernel) ?_
  refine z_newa hx hb hT hK hP hD hS hA (N := 1800) (by omega) (Nat.le_of_ble_eq_true rfl) (Nat.le_of_ble_eq_true rfl) dX5_init_113 (fun m7 H hP hD hS => ?_)
  have hP : zP G ([(md, .inr (6, [.int (zI (0)), .int (zI (0)), .int (zI (0)), .int (zI (4)), .ref ma, .ref mb, .ref mc, .int (zI (2040)), .int (zI (1)), .ref mt, .int (zI (2)), .int (zI (0)), .ref m1, .ref m2, .ref m3, .ref m4, .ref m5, .ref m6, .null])), ia G ma 32 (fun _ => 0), ia G mb 1536 (fun _ => 0), ia G mc 8 (fun _ => 0), ia G mt 256 (fun _ => 0), ia G m1 6 (fun _ => 0), ia G m2 6 (fun _ => 0), ia G m3 6 (fun _ => 0), ia G m4 6 (fun _ => 0), ia G m5 6 (fun _ => 0), ia G m6 1800 (fun _ => 0), ia G m7 1800 (fun _ => 0)]) H := hP
  have hD : va_D A ([(md, .inr (6, [.int (zI (0)), .int (zI (0)), .int (zI (0)), .int (zI (4)), .ref ma, .ref mb, .ref mc, .int (zI (2040)), .int (zI (1)), .ref mt, .int (zI (2)), .int (zI (0)), .ref m1, .ref m2, .ref m3, .ref m4, .ref m5, .ref m6, .null])), ia G ma 32 (fun _ => 0), ia G mb 1536 (fun _ => 0), ia G mc 8 (fun _ => 0), ia G mt 256 (fun _ => 0), ia G m1 6 (fun _ => 0), ia G m2 6 (fun _ => 0), ia G m3 6 (fun _ => 0), ia G m4 6 (fun _ => 0), ia G m5 6 (fun _ => 0), ia G m6 1800 (fun _ => 0), ia G m7 1800 (fun _ => 0)]) := hD
  refine W.widen (k := 11) (n := 5462) (Nat.le_of_ble_eq_true rfl) (Nat.le_of_ble_eq_true rfl) ?_
  refine pf_X5_53 (ws' := [(md, .inr (6, [.int (zI (0)), .int (zI (0)), .int (zI (0)), .int (zI (4)), .ref ma, .ref mb, .ref mc, .int (zI (2040)), .int (zI (1)), .ref mt, .int (zI (2)), .int (zI (0)), .ref m1, .ref m2, .ref m3, .ref m4, .ref m5, .ref m6, .ref m7])), ia G ma 32 (fun _ => 0), ia G mb 1536 (fun _ => 0), ia G mc 8 (fun _ => 0), ia G mt 256 (fun _ => 0), ia G m1 6 (fun _ => 0), ia G m2 6 (fun _ => 0), ia G m3 6 (fun _ => 0), ia G m4 6 (fun _ => 0), ia G m5 6 (fun _ => 0), ia G m6 1800 (fun _ => 0), ia G m7 1800 (fun _ => 0)]) hx hb hT hown hin hK hP hD hS 0 rfl (Nat.le_of_ble_eq_true rfl) rfl rfl rfl dX5_init_115 (fun H locs hP hD hS => ?_)
  refine lv_aload_n hx hb dX5_init_118 rfl (lv_at hl 0 rfl) ?_
  refine z_cutH (A := A) (H0 := s.heap) (G := G) (σ := Array Slot) (fun zq => F0 m 140 (zq) [.int (zI ((max 1 (min 16 x1)))), .ref md]) (fun zq => (True) ∧ lv_has (zq) 4 [(0, .ref md), (1, .int (zI (x1))), (2, .int (zI (x2)))]) (fun zq => [(md, .inr (6, [.int (zI (0)), .int (zI (0)), .int (zI (0)), .int (zI (4)), .ref ma, .ref mb, .ref mc, .int (zI (2040)), .int (zI (1)), .ref mt, .int (zI (2)), .int (zI (0)), .ref m1, .ref m2, .ref m3, .ref m4, .ref m5, .ref m6, .ref m7])), ia G ma 32 (fun _ => 0), ia G mb 1536 (fun _ => 0), ia G mc 8 (fun _ => 0), ia G mt 256 (fun _ => 0), ia G m1 6 (fun _ => 0), ia G m2 6 (fun _ => 0), ia G m3 6 (fun _ => 0), ia G m4 6 (fun _ => 0), ia G m5 6 (fun _ => 0), ia G m6 1800 (fun _ => 0), ia G m7 1800 (fun _ => 0)]) ?_ ?_
  · intro ls H locs hq hP hD hS
    obtain ⟨hJ, hl⟩ := hq
    try dsimp only at hJ hl hP hD ⊢
    have hP : zP G ([(md, .inr (6, [.int (zI (0)), .int (zI (0)), .int (zI (0)), .int (zI (4)), .ref ma, .ref mb, .ref mc, .int (zI (2040)), .int (zI (1)), .ref mt, .int (zI (2)), .int (zI (0)), .ref m1, .ref m2, .ref m3, .ref m4, .ref m5, .ref m6, .ref m7])), ia G ma 32 (fun _ => 0), ia G mb 1536 (fun _ => 0), ia G mc 8 (fun _ => 0), ia G mt 256 (fun _ => 0), ia G m1 6 (fun _ => 0), ia G m2 6 (fun _ => 0), ia G m3 6 (fun _ => 0), ia G m4 6 (fun _ => 0), ia G m5 6 (fun _ => 0), ia G m6 1800 (fun _ => 0), ia G m7 1800 (fun _ => 0)]) H := hP
    have hD : va_D A ([(md, .inr (6, [.int (zI (0)), .int (zI (0)), .int (zI (0)), .int (zI (4)), .ref ma, .ref mb, .ref mc, .int (zI (2040)), .int (zI (1)), .ref mt, .int (zI (2)), .int (zI (0)), .ref m1, .ref m2, .ref m3, .ref m4, .ref m5, .ref m6, .ref m7])), ia G ma 32 (fun _ => 0), ia G mb 1536 (fun _ => 0), ia G mc 8 (fun _ => 0), ia G mt 256 (fun _ => 0), ia G m1 6 (fun _ => 0), ia G m2 6 (fun _ => 0), ia G m3 6 (fun _ => 0), ia G m4 6 (fun _ => 0), ia G m5 6 (fun _ => 0), ia G m6 1800 (fun _ => 0), ia G m7 1800 (fun _ => 0)]) := hD
    refine pf_X5_56 (ws' := [(md, .inr (6, [.int (zI (0)), .int (zI ((max 1 (min 16 x1)))), .int (zI (0)), .int (zI (4)), .ref ma, .ref mb, .ref mc, .int (zI (2040)), .int (zI (1)), .ref mt, .int (zI (2)), .int (zI (0)), .ref m1, .ref m2, .ref m3, .ref m4, .ref m5, .ref m6, .ref m7])), ia G ma 32 (fun _ => 0), ia G mb 1536 (fun _ => 0), ia G mc 8 (fun _ => 0), ia G mt 256 (fun _ => 0), ia G m1 6 (fun _ => 0), ia G m2 6 (fun _ => 0), ia G m3 6 (fun _ => 0), ia G m4 6 (fun _ => 0), ia G m5 6 (fun _ => 0), ia G m6 1800 (fun _ => 0), ia G m7 1800 (fun _ => 0)]) hx hb hT hown hin hK hP hD hS 0 rfl (Nat.le_of_ble_eq_true rfl) rfl rfl rfl dX5_init_140 (fun H locs hP hD hS => ?_)
    refine lv_aload_n hx hb dX5_init_143 rfl (lv_at hl 0 rfl) ?_
    refine z_cutH (A := A) (H0 := s.heap) (G := G) (σ := Array Slot) (fun zq => F0 m 165 (zq) [.int (zI ((max 1 (min 12 x2)))), .ref md]) (fun zq => (True) ∧ lv_has (zq) 4 [(0, .ref md), (1, .int (zI (x1))), (2, .int (zI (x2)))]) (fun zq => [(md, .inr (6, [.int (zI (0)), .int (zI ((max 1 (min 16 x1)))), .int (zI (0)), .int (zI (4)), .ref ma, .ref mb, .ref mc, .int (zI (2040)), .int (zI (1)), .ref mt, .int (zI (2)), .int (zI (0)), .ref m1, .ref m2, .ref m3, .ref m4, .ref m5, .ref m6, .ref m7])), ia G ma 32 (fun _ => 0), ia G mb 1536 (fun _ => 0), ia G mc 8 (fun _ => 0), ia G mt 256 (fun _ => 0), ia G m1 6 (fun _ => 0), ia G m2 6 (fun _ => 0), ia G m3 6 (fun _ => 0), ia G m4 6 (fun _ => 0), ia G m5 6 (fun _ => 0), ia G m6 1800 (fun _ => 0), ia G m7 1800 (fun _ => 0)]) ?_ ?_
    · intro ls H locs hq hP hD hS
      obtain ⟨hJ, hl⟩ := hq
      try dsimp only at hJ hl hP hD ⊢
      have hP : zP G ([(md, .inr (6, [.int (zI (0)), .int (zI ((max 1 (min 16 x1)))), .int (zI (0)), .int (zI (4)), .ref ma, .ref mb, .ref mc, .int (zI (2040)), .int (zI (1)), .ref mt, .int (zI (2)), .int (zI (0)), .ref m1, .ref m2, .ref m3, .ref m4, .ref m5, .ref m6, .ref m7])), ia G ma 32 (fun _ => 0), ia G mb 1536 (fun _ => 0), ia G mc 8 (fun _ => 0), ia G mt 256 (fun _ => 0), ia G m1 6 (fun _ => 0), ia G m2 6 (fun _ => 0), ia G m3 6 (fun _ => 0), ia G m4 6 (fun _ => 0), ia G m5 6 (fun _ => 0), ia G m6 1800 (fun _ => 0), ia G m7 1800 (fun _ => 0)]) H := hP
      have hD : va_D A ([(md, .inr (6, [.int (zI (0)), .int (zI ((max 1 (min 16 x1)))), .int (zI (0)), .int (zI (4)), .ref ma, .ref mb, .ref mc, .int (zI (2040)), .int (zI (1)), .ref mt, .int (zI (2)), .int (zI (0)), .ref m1, .ref m2, .ref m3, .ref m4, .ref m5, .ref m6, .ref m7])), ia G ma 32 (fun _ => 0), ia G mb 1536 (fun _ => 0), ia G mc 8 (fun _ => 0), ia G mt 256 (fun _ => 0), ia G m1 6 (fun _ => 0), ia G m2 6 (fun _ => 0), ia G m3 6 (fun _ => 0), ia G m4 6 (fun _ => 0), ia G m5 6 (fun _ => 0), ia G m6 1800 (fun _ => 0), ia G m7 1800 (fun _ => 0)]) := hD
      refine pf_X5_59 (ws' := [(md, .inr (6, [.int (zI (0)), .int (zI ((max 1 (min 16 x1)))), .int (zI ((max 1 (min 12 x2)))), .int (zI (4)), .ref ma, .ref mb, .ref mc, .int (zI (2040)), .int (zI (1)), .ref mt, .int (zI (2)), .int (zI (0)), .ref m1, .ref m2, .ref m3, .ref m4, .ref m5, .ref m6, .ref m7])), ia G ma 32 (fun _ => 0), ia G mb 1536 (fun _ => 0), ia G mc 8 (fun _ => 0), ia G mt 256 (fun _ => 0), ia G m1 6 (fun _ => 0), ia G m2 6 (fun _ => 0), ia G m3 6 (fun _ => 0), ia G m4 6 (fun _ => 0), ia G m5 6 (fun _ => 0), ia G m6 1800 (fun _ => 0), ia G m7 1800 (fun _ => 0)]) hx hb hT hown hin hK hP hD hS 0 rfl (Nat.le_of_ble_eq_true rfl) rfl rfl rfl dX5_init_165 (fun H locs hP hD hS => ?_)
      refine z_iconst hx hb dX5_init_168 ?_
      refine lv_istore_n (lv' := [(3, .int (zI (0))), (0, .ref md), (1, .int (zI (x1))), (2, .int (zI (x2)))]) hx hb dX5_init_169 rfl hl (by decide) rfl (fun ls hl => ?_)
      have hP : zP G ([(md, .inr (6, [.int (zI (0)), .int (zI ((max 1 (min 16 x1)))), .int (zI ((max 1 (min 12 x2)))), .int (zI (4)), .ref ma, .ref mb, .ref mc, .int (zI (2040)), .int (zI (1)), .ref mt, .int (zI (2)), .int (zI (0)), .ref m1, .ref m2, .ref m3, .ref m4, .ref m5, .ref m6, .ref m7])), ia G ma 32 (mix0 0), ia G mb 1536 (fun _ => 0), ia G mc 8 (fun _ => 0), ia G mt 256 (fun _ => 0), ia G m1 6 (fun _ => 0), ia G m2 6 (fun _ => 0), ia G m3 6 (fun _ => 0), ia G m4 6 (fun _ => 0), ia G m5 6 (fun _ => 0), ia G m6 1800 (fun _ => 0), ia G m7 1800 (fun _ => 0)]) H := by rw [mix0_0]; exact hP
      have hD : va_D A ([(md, .inr (6, [.int (zI (0)), .int (zI ((max 1 (min 16 x1)))), .int (zI ((max 1 (min 12 x2)))), .int (zI (4)), .ref ma, .ref mb, .ref mc, .int (zI (2040)), .int (zI (1)), .ref mt, .int (zI (2)), .int (zI (0)), .ref m1, .ref m2, .ref m3, .ref m4, .ref m5, .ref m6, .ref m7])), ia G ma 32 (mix0 0), ia G mb 1536 (fun _ => 0), ia G mc 8 (fun _ => 0), ia G mt 256 (fun _ => 0), ia G m1 6 (fun _ => 0), ia G m2 6 (fun _ => 0), ia G m3 6 (fun _ => 0), ia G m4 6 (fun _ => 0), ia G m5 6 (fun _ => 0), ia G m6 1800 (fun _ => 0), ia G m7 1800 (fun _ => 0)]) := by rw [mix0_0]; exact hD
      refine z_loopH (σ := Int × Array Slot) (fun zq => F0 m 170 (zq.2) []) (fun zq => (0 ≤ zq.1 ∧ zq.1 ≤ 4) ∧ lv_has (zq.2) 4 [(0, .ref md), (1, .int (zI (x1))), (2, .int (zI (x2))), (3, .int (zI (zq.1)))]) (fun zq => [(md, .inr (6, [.int (zI (0)), .int (zI ((max 1 (min 16 x1)))), .int (zI ((max 1 (min 12 x2)))), .int (zI (4)), .ref ma, .ref mb, .ref mc, .int (zI (2040)), .int (zI (1)), .ref mt, .int (zI (2)), .int (zI (0)), .ref m1, .ref m2, .ref m3, .ref m4, .ref m5, .ref m6, .ref m7])), ia G ma 32 (mix0 zq.1), ia G mb 1536 (fun _ => 0), ia G mc 8 (fun _ => 0), ia G mt 256 (fun _ => 0), ia G m1 6 (fun _ => 0), ia G m2 6 (fun _ => 0), ia G m3 6 (fun _ => 0), ia G m4 6 (fun _ => 0), ia G m5 6 (fun _ => 0), ia G m6 1800 (fun _ => 0), ia G m7 1800 (fun _ => 0)]) (fun zq => (4 - zq.1).toNat) ?_ (0, ls) ⟨by refine ⟨?_, ?_⟩ <;> omega, lv_sub hl [1, 2, 3, 0] rfl⟩ hP hD hS
      intro zq H locs hq hP hD hS ih
      obtain ⟨k, ls⟩ := zq
      obtain ⟨hI, hl⟩ := hq
      try dsimp only at hI hl ih hP hD ⊢
      have hP : zP G ([(md, .inr (6, [.int (zI (0)), .int (zI ((max 1 (min 16 x1)))), .int (zI ((max 1 (min 12 x2)))), .int (zI (4)), .ref ma, .ref mb, .ref mc, .int (zI (2040)), .int (zI (1)), .ref mt, .int (zI (2)), .int (zI (0)), .ref m1, .ref m2, .ref m3, .ref m4, .ref m5, .ref m6, .ref m7])), ia G ma 32 (mix0 k), ia G mb 1536 (fun _ => 0), ia G mc 8 (fun _ => 0), ia G mt 256 (fun _ => 0), ia G m1 6 (fun _ => 0), ia G m2 6 (fun _ => 0), ia G m3 6 (fun _ => 0), ia G m4 6 (fun _ => 0), ia G m5 6 (fun _ => 0), ia G m6 1800 (fun _ => 0), ia G m7 1800 (fun _ => 0)]) H := hP
      have hD : va_D A ([(md, .inr (6, [.int (zI (0)), .int (zI ((max 1 (min 16 x1)))), .int (zI ((max 1 (min 12 x2)))), .int (zI (4)), .ref ma, .ref mb, .ref mc, .int (zI (2040)), .int (zI (1)), .ref mt, .int (zI (2)), .int (zI (0)), .ref m1, .ref m2, .ref m3, .ref m4, .ref m5, .ref m6, .ref m7])), ia G ma 32 (mix0 k), ia G mb 1536 (fun _ => 0), ia G mc 8 (fun _ => 0), ia G mt 256 (fun _ => 0), ia G m1 6 (fun _ => 0), ia G m2 6 (fun _ => 0), ia G m3 6 (fun _ => 0), ia G m4 6 (fun _ => 0), ia G m5 6 (fun _ => 0), ia G m6 1800 (fun _ => 0), ia G m7 1800 (fun _ => 0)]) := hD
      have ih170 := ih
      refine lv_iload_n hx hb dX5_init_170 rfl (lv_at hl 3 rfl) ?_
      refine z_iconst hx hb dX5_init_171 ?_
      refine z_icmp_ge (tgt := 192) hx hb dX5_init_172 (by decide) (by omega) (by omega) (fun h172 => ?_) (fun h172 => ?_)
      · skip
        have hk9 : k = 4 := by omega
        rw [hk9] at hP hD
        refine z_iconst hx hb dX5_init_192 ?_
        refine lv_istore_n (lv' := [(3, .int (zI (0))), (0, .ref md), (1, .int (zI (x1))), (2, .int (zI (x2)))]) hx hb dX5_init_193 rfl hl (by decide) rfl (fun ls hl => ?_)
        have hP : zP G ([(md, .inr (6, [.int (zI (0)), .int (zI ((max 1 (min 16 x1)))), .int (zI ((max 1 (min 12 x2)))), .int (zI (4)), .ref ma, .ref mb, .ref mc, .int (zI (2040)), .int (zI (1)), .ref mt, .int (zI (2)), .int (zI (0)), .ref m1, .ref m2, .ref m3, .ref m4, .ref m5, .ref m6, .ref m7])), ia G ma 32 (mix0 4), ia G mb 1536 (fun _ => 0), ia G mc 8 (seg0 0 (-1) 0), ia G mt 256 (fun _ => 0), ia G m1 6 (fun _ => 0), ia G m2 6 (fun _ => 0), ia G m3 6 (fun _ => 0), ia G m4 6 (fun _ => 0), ia G m5 6 (fun _ => 0), ia G m6 1800 (fun _ => 0), ia G m7 1800 (fun _ => 0)]) H := by rw [seg0_0]; exact hP
        have hD : va_D A ([(md, .inr (6, [.int (zI (0)), .int (zI ((max 1 (min 16 x1)))), .int (zI ((max 1 (min 12 x2)))), .int (zI (4)), .ref ma, .ref mb, .ref mc, .int (zI (2040)), .int (zI (1)), .ref mt, .int (zI (2)), .int (zI (0)), .ref m1, .ref m2, .ref m3, .ref m4, .ref m5, .ref m6, .ref m7])), ia G ma 32 (mix0 4), ia G mb 1536 (fun _ => 0), ia G mc 8 (seg0 0 (-1) 0), ia G mt 256 (fun _ => 0), ia G m1 6 (fun _ => 0), ia G m2 6 (fun _ => 0), ia G m3 6 (fun _ => 0), ia G m4 6 (fun _ => 0), ia G m5 6 (fun _ => 0), ia G m6 1800 (fun _ => 0), ia G m7 1800 (fun _ => 0)]) := by rw [seg0_0]; exact hD
        refine z_loopH (σ := Int × Array Slot) (fun zq => F0 m 194 (zq.2) []) (fun zq => (0 ≤ zq.1 ∧ zq.1 ≤ 8) ∧ lv_has (zq.2) 4 [(0, .ref md), (1, .int (zI (x1))), (2, .int (zI (x2))), (3, .int (zI (zq.1)))]) (fun zq => [(md, .inr (6, [.int (zI (0)), .int (zI ((max 1 (min 16 x1)))), .int (zI ((max 1 (min 12 x2)))), .int (zI (4)), .ref ma, .ref mb, .ref mc, .int (zI (2040)), .int (zI (1)), .ref mt, .int (zI (2)), .int (zI (0)), .ref m1, .ref m2, .ref m3, .ref m4, .ref m5, .ref m6, .ref m7])), ia G ma 32 (mix0 4), ia G mb 1536 (fun _ => 0), ia G mc 8 (seg0 0 (-1) zq.1), ia G mt 256 (fun _ => 0), ia G m1 6 (fun _ => 0), ia G m2 6 (fun _ => 0), ia G m3 6 (fun _ => 0), ia G m4 6 (fun _ => 0), ia G m5 6 (fun _ => 0), ia G m6 1800 (fun _ => 0), ia G m7 1800 (fun _ => 0)]) (fun zq => (8 - zq.1).toNat) ?_ (0, ls) ⟨by refine ⟨?_, ?_⟩ <;> omega, lv_sub hl [1, 2, 3, 0] rfl⟩ hP hD hS
        intro zq H locs hq hP hD hS ih
        obtain ⟨k2, ls⟩ := zq
        obtain ⟨hI, hl⟩ := hq
        try dsimp only at hI hl ih hP hD ⊢
        have hP : zP G ([(md, .inr (6, [.int (zI (0)), .int (zI ((max 1 (min 16 x1)))), .int (zI ((max 1 (min 12 x2)))), .int (zI (4)), .ref ma, .ref mb, .ref mc, .int (zI (2040)), .int (zI (1)), .ref mt, .int (zI (2)), .int (zI (0)), .ref m1, .ref m2, .ref m3, .ref m4, .ref m5, .ref m6, .ref m7])), ia G ma 32 (mix0 4), ia G mb 1536 (fun _ => 0), ia G mc 8 (seg0 0 (-1) k2), ia G mt 256 (fun _ => 0), ia G m1 6 (fun _ => 0), ia G m2 6 (fun _ => 0), ia G m3 6 (fun _ => 0), ia G m4 6 (fun _ => 0), ia G m5 6 (fun _ => 0), ia G m6 1800 (fun _ => 0), ia G m7 1800 (fun _ => 0)]) H := hP
        have hD : va_D A ([(md, .inr (6, [.int (zI (0)), .int (zI ((max 1 (min 16 x1)))), .int (zI ((max 1 (min 12 x2)))), .int (zI (4)), .ref ma, .ref mb, .ref mc, .int (zI (2040)), .int (zI (1)), .ref mt, .int (zI (2)), .int (zI (0)), .ref m1, .ref m2, .ref m3, .ref m4, .ref m5, .ref m6, .ref m7])), ia G ma 32 (mix0 4), ia G mb 1536 (fun _ => 0), ia G mc 8 (seg0 0 (-1) k2), ia G mt 256 (fun _ => 0), ia G m1 6 (fun _ => 0), ia G m2 6 (fun _ => 0), ia G m3 6 (fun _ => 0), ia G m4 6 (fun _ => 0), ia G m5 6 (fun _ => 0), ia G m6 1800 (fun _ => 0), ia G m7 1800 (fun _ => 0)]) := hD
        have ih194 := ih
        refine lv_iload_n hx hb dX5_init_194 rfl (lv_at hl 3 rfl) ?_
        refine z_bipush hx hb dX5_init_195 (by decide +kernel) ?_
        refine z_icmp_ge (tgt := 213) hx hb dX5_init_197 (by decide) (by omega) (by omega) (fun h197 => ?_) (fun h197 => ?_)
        · skip
          have hk9 : k2 = 8 := by omega
          rw [hk9] at hP hD
          refine z_iconst hx hb dX5_init_213 ?_
          refine lv_istore_n (lv' := [(3, .int (zI (1))), (0, .ref md), (1, .int (zI (x1))), (2, .int (zI (x2)))]) hx hb dX5_init_214 rfl hl (by decide) rfl (fun ls hl => ?_)
          have hP : zP G ([(md, .inr (6, [.int (zI (0)), .int (zI ((max 1 (min 16 x1)))), .int (zI ((max 1 (min 12 x2)))), .int (zI (4)), .ref ma, .ref mb, .ref mc, .int (zI (2040)), .int (zI (1)), .ref mt, .int (zI (2)), .int (zI (0)), .ref m1, .ref m2, .ref m3, .ref m4, .ref m5, .ref m6, .ref m7])), ia G ma 32 (mix0 4), ia G mb 1536 (fun _ => 0), ia G mc 8 (seg0 0 (-1) 8), ia G mt 256 (seg0 1 (-1) 1), ia G m1 6 (fun _ => 0), ia G m2 6 (fun _ => 0), ia G m3 6 (fun _ => 0), ia G m4 6 (fun _ => 0), ia G m5 6 (fun _ => 0), ia G m6 1800 (fun _ => 0), ia G m7 1800 (fun _ => 0)]) H := by rw [seg0_0]; exact hP
          have hD : va_D A ([(md, .inr (6, [.int (zI (0)), .int (zI ((max 1 (min 16 x1)))), .int (zI ((max 1 (min 12 x2)))), .int (zI (4)), .ref ma, .ref mb, .ref mc, .int (zI (2040)), .int (zI (1)), .ref mt, .int (zI (2)), .int (zI (0)), .ref m1, .ref m2, .ref m3, .ref m4, .ref m5, .ref m6, .ref m7])), ia G ma 32 (mix0 4), ia G mb 1536 (fun _ => 0), ia G mc 8 (seg0 0 (-1) 8), ia G mt 256 (seg0 1 (-1) 1), ia G m1 6 (fun _ => 0), ia G m2 6 (fun _ => 0), ia G m3 6 (fun _ => 0), ia G m4 6 (fun _ => 0), ia G m5 6 (fun _ => 0), ia G m6 1800 (fun _ => 0), ia G m7 1800 (fun _ => 0)]) := by rw [seg0_0]; exact hD
          refine z_loopH (σ := Int × Array Slot) (fun zq => F0 m 215 (zq.2) []) (fun zq => (1 ≤ zq.1 ∧ zq.1 ≤ 255) ∧ lv_has (zq.2) 4 [(0, .ref md), (1, .int (zI (x1))), (2, .int (zI (x2))), (3, .int (zI (zq.1)))]) (fun zq => [(md, .inr (6, [.int (zI (0)), .int (zI ((max 1 (min 16 x1)))), .int (zI ((max 1 (min 12 x2)))), .int (zI (4)), .ref ma, .ref mb, .ref mc, .int (zI (2040)), .int (zI (1)), .ref mt, .int (zI (2)), .int (zI (0)), .ref m1, .ref m2, .ref m3, .ref m4, .ref m5, .ref m6, .ref m7])), ia G ma 32 (mix0 4), ia G mb 1536 (fun _ => 0), ia G mc 8 (seg0 0 (-1) 8), ia G mt 256 (seg0 1 (-1) zq.1), ia G m1 6 (fun _ => 0), ia G m2 6 (fun _ => 0), ia G m3 6 (fun _ => 0), ia G m4 6 (fun _ => 0), ia G m5 6 (fun _ => 0), ia G m6 1800 (fun _ => 0), ia G m7 1800 (fun _ => 0)]) (fun zq => (255 - zq.1).toNat) ?_ (1, ls) ⟨by refine ⟨?_, ?_⟩ <;> omega, lv_sub hl [1, 2, 3, 0] rfl⟩ hP hD hS
          intro zq H locs hq hP hD hS ih
          obtain ⟨k3, ls⟩ := zq
          obtain ⟨hI, hl⟩ := hq
          try dsimp only at hI hl ih hP hD ⊢
          have hP : zP G ([(md, .inr (6, [.int (zI (0)), .int (zI ((max 1 (min 16 x1)))), .int (zI ((max 1 (min 12 x2)))), .int (zI (4)), .ref ma, .ref mb, .ref mc, .int (zI (2040)), .int (zI (1)), .ref mt, .int (zI (2)), .int (zI (0)), .ref m1, .ref m2, .ref m3, .ref m4, .ref m5, .ref m6, .ref m7])), ia G ma 32 (mix0 4), ia G mb 1536 (fun _ => 0), ia G mc 8 (seg0 0 (-1) 8), ia G mt 256 (seg0 1 (-1) k3), ia G m1 6 (fun _ => 0), ia G m2 6 (fun _ => 0), ia G m3 6 (fun _ => 0), ia G m4 6 (fun _ => 0), ia G m5 6 (fun _ => 0), ia G m6 1800 (fun _ => 0), ia G m7 1800 (fun _ => 0)]) H := hP
          have hD : va_D A ([(md, .inr (6, [.int (zI (0)), .int (zI ((max 1 (min 16 x1)))), .int (zI ((max 1 (min 12 x2)))), .int (zI (4)), .ref ma, .ref mb, .ref mc, .int (zI (2040)), .int (zI (1)), .ref mt, .int (zI (2)), .int (zI (0)), .ref m1, .ref m2, .ref m3, .ref m4, .ref m5, .ref m6, .ref m7])), ia G ma 32 (mix0 4), ia G mb 1536 (fun _ => 0), ia G mc 8 (seg0 0 (-1) 8), ia G mt 256 (seg0 1 (-1) k3), ia G m1 6 (fun _ => 0), ia G m2 6 (fun _ => 0), ia G m3 6 (fun _ => 0), ia G m4 6 (fun _ => 0), ia G m5 6 (fun _ => 0), ia G m6 1800 (fun _ => 0), ia G m7 1800 (fun _ => 0)]) := hD
          have ih215 := ih
          refine lv_iload_n hx hb dX5_init_215 rfl (lv_at hl 3 rfl) ?_
          refine z_sipush hx hb dX5_init_216 (by decide +kernel) ?_
          refine z_icmp_ge (tgt := 235) hx hb dX5_init_219 (by decide) (by omega) (by omega) (fun h219 => ?_) (fun h219 => ?_)
          · skip
            have hk9 : k3 = 255 := by omega
            rw [hk9] at hP hD
            refine lv_aload_n hx hb dX5_init_235 rfl (lv_at hl 0 rfl) ?_
            refine gf_X5_29 hx hb hT hown hK hP 0 rfl rfl dX5_init_236 ?_
            refine z_sipush hx hb dX5_init_239 (by decide +kernel) ?_
            refine z_sipush hx hb dX5_init_242 (by decide +kernel) ?_
            refine z_iast (ws' := [(md, .inr (6, [.int (zI (0)), .int (zI ((max 1 (min 16 x1)))), .int (zI ((max 1 (min 12 x2)))), .int (zI (4)), .ref ma, .ref mb, .ref mc, .int (zI (2040)), .int (zI (1)), .ref mt, .int (zI (2)), .int (zI (0)), .ref m1, .ref m2, .ref m3, .ref m4, .ref m5, .ref m6, .ref m7])), ia G ma 32 (mix0 4), ia G mb 1536 (fun _ => 0), ia G mc 8 (seg0 0 (-1) 8), ia G mt 256 (zu (seg0 1 (-1) 255) 255 255), ia G m1 6 (fun _ => 0), ia G m2 6 (fun _ => 0), ia G m3 6 (fun _ => 0), ia G m4 6 (fun _ => 0), ia G m5 6 (fun _ => 0), ia G m6 1800 (fun _ => 0), ia G m7 1800 (fun _ => 0)]) hx hb hK hP hD hS 4 rfl (⟨by omega, by omega, by omega⟩) dX5_init_245 rfl (fun H locs hP hD hS => ?_)
            exact z_wrv (ma, mb, mc, mt, m1, m2, m3, m4, m5, m6, m7) hx hb hr hlocks hK hP hD hS (trivial) dX5_init_246
          · skip
            refine lv_aload_n hx hb dX5_init_222 rfl (lv_at hl 0 rfl) ?_
            refine gf_X5_29 hx hb hT hown hK hP 0 rfl rfl dX5_init_223 ?_
            refine lv_iload_n hx hb dX5_init_226 rfl (lv_at hl 3 rfl) ?_
            refine z_iconst hx hb dX5_init_227 ?_
            refine z_iast (ws' := [(md, .inr (6, [.int (zI (0)), .int (zI ((max 1 (min 16 x1)))), .int (zI ((max 1 (min 12 x2)))), .int (zI (4)), .ref ma, .ref mb, .ref mc, .int (zI (2040)), .int (zI (1)), .ref mt, .int (zI (2)), .int (zI (0)), .ref m1, .ref m2, .ref m3, .ref m4, .ref m5, .ref m6, .ref m7])), ia G ma 32 (mix0 4), ia G mb 1536 (fun _ => 0), ia G mc 8 (seg0 0 (-1) 8), ia G mt 256 (zu (seg0 1 (-1) k3) k3 (-1)), ia G m1 6 (fun _ => 0), ia G m2 6 (fun _ => 0), ia G m3 6 (fun _ => 0), ia G m4 6 (fun _ => 0), ia G m5 6 (fun _ => 0), ia G m6 1800 (fun _ => 0), ia G m7 1800 (fun _ => 0)]) hx hb hK hP hD hS 4 rfl (⟨by omega, by omega, by omega⟩) dX5_init_228 rfl (fun H locs hP hD hS => ?_)
            rw [show (zu (seg0 1 (-1) k3) k3 (-1)) = (seg0 1 (-1) (k3 + 1)) from seg0_s (by omega)] at hP hD
            refine lv_iinc (v := zI (k3 + (1))) (lv' := [(3, .int (zI (k3 + (1)))), (0, .ref md), (1, .int (zI (x1))), (2, .int (zI (x2)))]) hx hb dX5_init_229 hl (k := 3) rfl (zI_add _ _) (by decide) rfl (fun ls hl => ?_)
            refine z_goto (tgt := 215) hx hb dX5_init_232 (by decide) ?_
            exact ih215 (k3 + 1, ls) _ _ ⟨by refine ⟨?_, ?_⟩ <;> omega, lv_sub hl [1, 2, 3, 0] rfl⟩ (by omega) hP hD hS
        · skip
          refine lv_aload_n hx hb dX5_init_200 rfl (lv_at hl 0 rfl) ?_
          refine gf_X5_20 hx hb hT hown hK hP 0 rfl rfl dX5_init_201 ?_
          refine lv_iload_n hx hb dX5_init_204 rfl (lv_at hl 3 rfl) ?_
          refine z_iconst hx hb dX5_init_205 ?_
          refine z_iast (ws' := [(md, .inr (6, [.int (zI (0)), .int (zI ((max 1 (min 16 x1)))), .int (zI ((max 1 (min 12 x2)))), .int (zI (4)), .ref ma, .ref mb, .ref mc, .int (zI (2040)), .int (zI (1)), .ref mt, .int (zI (2)), .int (zI (0)), .ref m1, .ref m2, .ref m3, .ref m4, .ref m5, .ref m6, .ref m7])), ia G ma 32 (mix0 4), ia G mb 1536 (fun _ => 0), ia G mc 8 (zu (seg0 0 (-1) k2) k2 (-1)), ia G mt 256 (fun _ => 0), ia G m1 6 (fun _ => 0), ia G m2 6 (fun _ => 0), ia G m3 6 (fun _ => 0), ia G m4 6 (fun _ => 0), ia G m5 6 (fun _ => 0), ia G m6 1800 (fun _ => 0), ia G m7 1800 (fun _ => 0)]) hx hb hK hP hD hS 3 rfl (⟨by omega, by omega, by omega⟩) dX5_init_206 rfl (fun H locs hP hD hS => ?_)
          rw [show (zu (seg0 0 (-1) k2) k2 (-1)) = (seg0 0 (-1) (k2 + 1)) from seg0_s (by omega)] at hP hD
          refine lv_iinc (v := zI (k2 + (1))) (lv' := [(3, .int (zI (k2 + (1)))), (0, .ref md), (1, .int (zI (x1))), (2, .int (zI (x2)))]) hx hb dX5_init_207 hl (k := 3) rfl (zI_add _ _) (by decide) rfl (fun ls hl => ?_)
          refine z_goto (tgt := 194) hx hb dX5_init_210 (by decide) ?_
          exact ih194 (k2 + 1, ls) _ _ ⟨by refine ⟨?_, ?_⟩ <;> omega, lv_sub hl [1, 2, 3, 0] rfl⟩ (by omega) hP hD hS
      · skip
        refine lv_aload_n hx hb dX5_init_175 rfl (lv_at hl 0 rfl) ?_
        refine gf_X5_13 hx hb hT hown hK hP 0 rfl rfl dX5_init_176 ?_
        refine z_iconst hx hb dX5_init_179 ?_
        refine lv_iload_n hx hb dX5_init_180 rfl (lv_at hl 3 rfl) ?_
        refine z_imul hx hb dX5_init_181 ?_
        refine z_sipush hx hb dX5_init_182 (by decide +kernel) ?_
        refine z_iast (ws' := [(md, .inr (6, [.int (zI (0)), .int (zI ((max 1 (min 16 x1)))), .int (zI ((max 1 (min 12 x2)))), .int (zI (4)), .ref ma, .ref mb, .ref mc, .int (zI (2040)), .int (zI (1)), .ref mt, .int (zI (2)), .int (zI (0)), .ref m1, .ref m2, .ref m3, .ref m4, .ref m5, .ref m6, .ref m7])), ia G ma 32 (zu (mix0 k) (5 * k) 255), ia G mb 1536 (fun _ => 0), ia G mc 8 (fun _ => 0), ia G mt 256 (fun _ => 0), ia G m1 6 (fun _ => 0), ia G m2 6 (fun _ => 0), ia G m3 6 (fun _ => 0), ia G m4 6 (fun _ => 0), ia G m5 6 (fun _ => 0), ia G m6 1800 (fun _ => 0), ia G m7 1800 (fun _ => 0)]) hx hb hK hP hD hS 1 rfl (⟨by omega, by omega, by omega⟩) dX5_init_185 rfl (fun H locs hP hD hS => ?_)
        rw [show (zu (mix0 k) (5 * k) 255) = (mix0 (k + 1)) from mix0_s (by omega)] at hP hD
        refine lv_iinc (v := zI (k + (1))) (lv' := [(3, .int (zI (k + (1)))), (0, .ref md), (1, .int (zI (x1))), (2, .int (zI (x2)))]) hx hb dX5_init_186 hl (k := 3) rfl (zI_add _ _) (by decide) rfl (fun ls hl => ?_)
        refine z_goto (tgt := 170) hx hb dX5_init_189 (by decide) ?_
        exact ih170 (k + 1, ls) _ _ ⟨by refine ⟨?_, ?_⟩ <;> omega, lv_sub hl [1, 2, 3, 0] rfl⟩ (by omega) hP hD hS
    intro J165
    refine lv_iload_n hx hb dX5_init_144 rfl (lv_at hl 2 rfl) ?_
    refine z_iconst hx hb dX5_init_145 ?_
    refine z_icmp_ge (tgt := 153) hx hb dX5_init_146 (by decide) (by omega) (by omega) (fun h146 => ?_) (fun h146 => ?_)
    · skip
      refine lv_iload_n hx hb dX5_init_153 rfl (lv_at hl 2 rfl) ?_
      refine z_bipush hx hb dX5_init_154 (by decide +kernel) ?_
      refine z_icmp_le (tgt := 164) hx hb dX5_init_156 (by decide) (by omega) (by omega) (fun h156 => ?_) (fun h156 => ?_)
      · skip
        refine lv_iload_n hx hb dX5_init_164 rfl (lv_at hl 2 rfl) ?_
        refine z_top (max 1 (min 12 x2)) (by omega) ?_
        exact J165 (ls) _ _ ⟨trivial, lv_sub hl [0, 1, 2] rfl⟩ hP hD hS
      · skip
        refine z_bipush hx hb dX5_init_159 (by decide +kernel) ?_
        refine z_goto (tgt := 165) hx hb dX5_init_161 (by decide) ?_
        refine z_top (max 1 (min 12 x2)) (by omega) ?_
        exact J165 (ls) _ _ ⟨trivial, lv_sub hl [0, 1, 2] rfl⟩ hP hD hS
    · skip
      refine z_iconst hx hb dX5_init_149 ?_
      refine z_goto (tgt := 165) hx hb dX5_init_150 (by decide) ?_
      refine z_top (max 1 (min 12 x2)) (by omega) ?_
      exact J165 (ls) _ _ ⟨trivial, lv_sub hl [0, 1, 2] rfl⟩ hP hD hS
  intro J140
  refine lv_iload_n hx hb dX5_init_119 rfl (lv_at hl 1 rfl) ?_
  refine z_iconst hx hb dX5_init_120 ?_
  refine z_icmp_ge (tgt := 128) hx hb dX5_init_121 (by decide) (by omega) (by omega) (fun h121 => ?_) (fun h121 => ?_)
  · skip
    refine lv_iload_n hx hb dX5_init_128 rfl (lv_at hl 1 rfl) ?_
    refine z_bipush hx hb dX5_init_129 (by decide +kernel) ?_
    refine z_icmp_le (tgt := 139) hx hb dX5_init_131 (by decide) (by omega) (by omega) (fun h131 => ?_) (fun h131 => ?_)
    · skip
      refine lv_iload_n hx hb dX5_init_139 rfl (lv_at hl 1 rfl) ?_
      refine z_top (max 1 (min 16 x1)) (by omega) ?_
      exact J140 (ls) _ _ ⟨trivial, lv_sub hl [0, 1, 2] rfl⟩ hP hD hS
    · skip
      refine z_bipush hx hb dX5_init_134 (by decide +kernel) ?_
      refine z_goto (tgt := 140) hx hb dX5_init_136 (by decide) ?_
      refine z_top (max 1 (min 16 x1)) (by omega) ?_
      exact J140 (ls) _ _ ⟨trivial, lv_sub hl [0, 1, 2] rfl⟩ hP hD hS
  · skip
    refine z_iconst hx hb dX5_init_124 ?_
    refine z_goto (tgt := 140) hx hb dX5_init_125 (by decide) ?_
    refine z_top (max 1 (min 16 x1)) (by omega) ?_
    exact J140 (ls) _ _ ⟨trivial, lv_sub hl [0, 1, 2] rfl⟩ hP hD hS
