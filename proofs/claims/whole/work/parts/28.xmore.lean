theorem srF_iff (f : Int → Bool) {num : Int} (h0 : 0 ≤ num) : ∀ n : Nat, (srF f num n = -1 ∧ cntB f n ≤ num) ∨ (0 ≤ srF f num n ∧ num < cntB f n) := by
  intro n
  induction n with
  | zero => left; exact ⟨rfl, h0⟩
  | succ n ih =>
    have e : srF f num (n + 1) = if srF f num n = -1 then (if f (n : Int) = true ∧ cntB f n = num then (n : Int) else -1) else srF f num n := rfl
    have e2 : cntB f (n + 1) = cntB f n + bI (f (n : Int)) := rfl
    rw [e, e2]
    rcases ih with ⟨h1, h2⟩ | ⟨h1, h2⟩
    · rw [if_pos h1]
      cases q : f (n : Int) with
      | true =>
        have hb : bI true = 1 := rfl
        by_cases q2 : cntB f n = num
        · rw [if_pos ⟨rfl, q2⟩]; right; omega
        · rw [if_neg (fun h => q2 h.2)]; left; omega
      | false =>
        have hb : bI false = 0 := rfl
        rw [if_neg (fun h => nomatch h.1)]; left; omega
    · rw [if_neg (by omega)]
      have hb := bI_01 (f (n : Int))
      right; omega

set_option maxHeartbeats 4000000 in
set_option maxRecDepth 100000 in
theorem c_X4_plate (l : Launch) (hst : l.stackTraces = false) (G : zG) (xx pg ik mx co pa cv ca cb ar : Nat) (nx w h pts cnt most rch : Int) (M C P : Int → Int) (cc : Int) (L V : Int → Int) (F : Nat → Option Nat) (k x y way : Int) (hp : pgOK w h pts cnt most rch M C P) (hvv : cvOK cc L V) (hnx : 0 ≤ nx ∧ nx ≤ 6) (hk : -2147483648 ≤ k ∧ k ≤ 2147483647) (hx : -2147483648 ≤ x ∧ x ≤ 2147483647) (hy : -2147483648 ≤ y ∧ y ≤ 2147483647) (hway : -2147483648 ≤ way ∧ way ≤ 2147483647) : zXi l yX4_plate cX4_plate 7 (some .int) { frames := 8, cells := 2, slots := 12, locals := 123 } G [.ref xx, .int (zI (k)), .int (zI (x)), .int (zI (y)), .int (zI (way))] (xL G xx pg ik mx co pa cv ca cb ar nx w h pts cnt most rch M C P cc L V F) (S := Unit) (fun u => (if way < 2 then (pW P pts k (x + w * y) (if way % 2 = 1 then (lendV w h rch x y (cdB M P pts cnt w (x + w * y))) else -1)) else bentV cc L V (pW P pts k (x + w * y) (if way % 2 = 1 then (lendV w h rch x y (cdB M P pts cnt w (x + w * y))) else -1)))) (fun u => cPla k x y way cnt w h = 0) (fun u => xL G xx pg ik mx co pa cv ca cb ar nx w h pts cnt most rch M C P cc L V F) (fun E => (E = "java/lang/IllegalArgumentException" ∧ cPla k x y way cnt w h = 1) ∨ (E = "java/lang/ArrayIndexOutOfBoundsException" ∧ cPla k x y way cnt w h = 2)) := by
  intro sz
  refine vx_ofW (cc := cX4_plate) (maxL := 7) (ret := (some .int)) (by decide) rfl ?_
  intro p e s m args below meth c s₁ B hml htab hv
  obtain ⟨rfl, hsz, hP, hK, hD0, hX⟩ := hv
  have hx := B.exec
  have hb := B.bytes
  have hr := B.returns
  have hT : ∀ w ∈ TB, w.before _ s = true := fun w h => atoms_spec (ws := Cond.code yX4_plate cX4_plate 7 (some .int) :: TB) B.pre w (List.mem_cons_of_mem _ h)
  have hown : s.vm.findClass RX4 = some m.cls := findClass_of_methodNamed B.named
  have hlocks := B.notSynchronized
  subst hsz
  have hD := hD0.self (sz := s.heap.size)
  generalize hAe : va_A (xL G xx pg ik mx co pa cv ca cb ar nx w h pts cnt most rch M C P cc L V F) s.heap.size = A at hD hX ⊢
  have hA : ∀ q : Nat, s.heap.size ≤ q → A q := fun q h => by rw [← hAe]; exact Or.inr h
  have hS : va_S A s.heap s.heap [] := va_S.rf
  have hsub : ∀ q, va_A (xL G xx pg ik mx co pa cv ca cb ar nx w h pts cnt most rch M C P cc L V F) s.heap.size q → A q := fun q h => by rw [← hAe]; exact h
  have hP : zP G (xL G xx pg ik mx co pa cv ca cb ar nx w h pts cnt most rch M C P cc L V F) s.heap := hP
  have hD : va_D A (xL G xx pg ik mx co pa cv ca cb ar nx w h pts cnt most rch M C P cc L V F) := hD
  have hl := lv_entry ([.ref xx, .int (zI (k)), .int (zI (x)), .int (zI (y)), .int (zI (way))]) (n := 7) (Nat.le_of_ble_eq_true rfl)
  rw [lg_entry_eq]
  generalize (lg_sl ([.ref xx, .int (zI (k)), .int (zI (x)), .int (zI (y)), .int (zI (way))]) ++ List.replicate (7 - (lg_sl ([.ref xx, .int (zI (k)), .int (zI (x)), .int (zI (y)), .int (zI (way))])).length) Slot.unset).toArray = ls at hl ⊢
  have hl : lv_has ls 7 [(0, .ref xx), (1, .int (zI (k))), (2, .int (zI (x))), (3, .int (zI (y))), (4, .int (zI (way)))] := hl
  obtain ⟨hw, hh, hpts, hcnt, hmost, hrch, hM, hC, hB⟩ := id hp
  have hpt := pgOK_pts hp
  obtain ⟨hcc, hL0, hLe, hLs, hLb, hVb⟩ := id hvv
  refine lv_iload hx hb dX4_plate_0 (lv_at hl 4 rfl) ?_
  refine z_if_lt (tgt := 11) hx hb dX4_plate_2 (by decide) (by omega) (fun h2 => ?_) (fun h2 => ?_)
  · skip
    exact z_throw (text := "a way is 0 to 3") hx hb hst hown hT hX kt_IAE (by decide +kernel) hml hl.1 htab hlocks dX4_plate_11 dX4_plate_14 dX4_plate_15 dX4_plate_17 dX4_plate_20 (Nat.le_of_ble_eq_true rfl) (Nat.le_of_ble_eq_true rfl) ⟨Nat.le_of_ble_eq_true rfl, Nat.le_of_ble_eq_true rfl⟩ (Nat.le_of_ble_eq_true rfl) (Nat.le_of_ble_eq_true rfl) (Or.inl ⟨rfl, if_pos (by omega)⟩)
  · skip
    refine lv_iload hx hb dX4_plate_5 (lv_at hl 4 rfl) ?_
    refine z_iconst hx hb dX4_plate_7 ?_
    refine z_icmp_le (tgt := 21) hx hb dX4_plate_8 (by decide) (by omega) (by omega) (fun h8 => ?_) (fun h8 => ?_)
    · skip
      refine lv_aload_n hx hb dX4_plate_21 rfl (lv_at hl 0 rfl) ?_
      refine lv_iload_n hx hb dX4_plate_22 rfl (lv_at hl 1 rfl) ?_
      refine z_xt (G := G) (q0 := 0) (As := [.int (zI (k))]) (rest := []) hx hb hml hown hT hK htab hlocks hX (c_X4_checkInk l hst G xx pg ik mx co pa cv ca cb ar nx w h pts cnt most rch M C P cc L V F (k) hp hvv hnx (by omega)) kc_X4_75 ⟨Nat.le_of_ble_eq_true rfl, Nat.le_of_ble_eq_true rfl⟩ ⟨Nat.le_of_ble_eq_true rfl, Nat.le_of_ble_eq_true rfl⟩ ⟨Nat.le_of_ble_eq_true rfl, Nat.le_of_ble_eq_true rfl⟩ hP hD0 hsub rfl rfl rfl rfl hl.1 rfl (Nat.le_of_ble_eq_true rfl) dX4_plate_23 (fun E9 h9 => Or.inr ⟨h9.1, by unfold cPla; rw [if_neg (by omega), if_neg (fun h8 => h9.2 h8.1)]⟩) (fun ok23 => ?_)
      refine lv_aload_n hx hb dX4_plate_26 rfl (lv_at hl 0 rfl) ?_
      refine lv_iload_n hx hb dX4_plate_27 rfl (lv_at hl 2 rfl) ?_
      refine lv_iload_n hx hb dX4_plate_28 rfl (lv_at hl 3 rfl) ?_
      refine z_xt (G := G) (q0 := 0) (As := [.int (zI (x)), .int (zI (y))]) (rest := []) hx hb hml hown hT hK htab hlocks hX (c_X4_checkPoint l hst G xx pg ik mx co pa cv ca cb ar nx w h pts cnt most rch M C P cc L V F (x) (y) hp hvv hnx (by omega) (by omega)) kc_X4_100 ⟨Nat.le_of_ble_eq_true rfl, Nat.le_of_ble_eq_true rfl⟩ ⟨Nat.le_of_ble_eq_true rfl, Nat.le_of_ble_eq_true rfl⟩ ⟨Nat.le_of_ble_eq_true rfl, Nat.le_of_ble_eq_true rfl⟩ hP hD0 hsub rfl rfl rfl rfl hl.1 rfl (Nat.le_of_ble_eq_true rfl) dX4_plate_29 (fun E9 h9 => Or.inr ⟨h9.1, by unfold cPla; rw [if_neg (by omega), if_neg (fun h8 => h9.2 h8.2)]⟩) (fun ok29 => ?_)
      have hpq := pt_b (w := w) (h := h) (x := x) (y := y) (by omega) (by omega)
      have hlb := lendV_b (w := w) (h := h) (rch := rch) (x := x) (y := y) (cdB M P pts cnt w (x + w * y)) (by omega) (by omega)
      have hpw := pW_b hB pts k (x + w * y) (if way % 2 = 1 then (lendV w h rch x y (cdB M P pts cnt w (x + w * y))) else -1)
      have hln : -1 ≤ (if way % 2 = 1 then (lendV w h rch x y (cdB M P pts cnt w (x + w * y))) else -1) ∧ (if way % 2 = 1 then (lendV w h rch x y (cdB M P pts cnt w (x + w * y))) else -1) < w * h := by split <;> omega
      refine z_cutH (A := A) (H0 := s.heap) (G := G) (σ := Array Slot) (fun zq => F0 m 53 (zq) [.int (zI ((if way % 2 = 1 then (lendV w h rch x y (cdB M P pts cnt w (x + w * y))) else -1)))]) (fun zq => (True) ∧ lv_has (zq) 7 [(0, .ref xx), (1, .int (zI (k))), (2, .int (zI (x))), (3, .int (zI (y))), (4, .int (zI (way)))]) (fun zq => xL G xx pg ik mx co pa cv ca cb ar nx w h pts cnt most rch M C P cc L V F) ?_ ?_
      · intro ls H locs hq hP hD hS
        obtain ⟨hJ, hl⟩ := hq
        try dsimp only at hJ hl hP hD ⊢
        have hP : zP G (xL G xx pg ik mx co pa cv ca cb ar nx w h pts cnt most rch M C P cc L V F) H := hP
        have hD : va_D A (xL G xx pg ik mx co pa cv ca cb ar nx w h pts cnt most rch M C P cc L V F) := hD
        refine lv_istore (lv' := [(5, .int (zI ((if way % 2 = 1 then (lendV w h rch x y (cdB M P pts cnt w (x + w * y))) else -1)))), (0, .ref xx), (1, .int (zI (k))), (2, .int (zI (x))), (3, .int (zI (y))), (4, .int (zI (way)))]) hx hb dX4_plate_53 hl (by decide) rfl (fun ls hl => ?_)
        refine lv_aload_n hx hb dX4_plate_55 rfl (lv_at hl 1 rfl) ?_
        refine gf_X4_23 hx hb hT hown hK hP 0 rfl rfl dX4_plate_56 ?_
        refine lv_iload_n hx hb dX4_plate_59 rfl (lv_at hl 2 rfl) ?_
        refine lv_iload_n hx hb dX4_plate_60 rfl (lv_at hl 3 rfl) ?_
        refine lv_aload_n hx hb dX4_plate_61 rfl (lv_at hl 1 rfl) ?_
        refine gf_X4_23 hx hb hT hown hK hP 0 rfl rfl dX4_plate_62 ?_
        refine gf_X4_83 hx hb hT hown hK hP 1 rfl rfl dX4_plate_65 ?_
        refine lv_iload_n hx hb dX4_plate_68 rfl (lv_at hl 4 rfl) ?_
        refine z_imul hx hb dX4_plate_69 ?_
        refine z_iadd hx hb dX4_plate_70 ?_
        refine lv_iload hx hb dX4_plate_71 (lv_at hl 0 rfl) ?_
        refine z_callV (q0 := 0) (G := G) (As := [.int (zI (k)), .int (zI ((x + (w * y)))), .int (zI ((if way % 2 = 1 then (lendV w h rch x y (cdB M P pts cnt w (x + w * y))) else -1)))]) (rest := []) hx hb hml hown hT hK (c_X3_byteWith l G pg ik mx co pa w h pts cnt most rch M C P (k) ((x + (w * y))) ((if way % 2 = 1 then (lendV w h rch x y (cdB M P pts cnt w (x + w * y))) else -1)) hp (by omega) (by omega) (by omega)) kc_X4_106 ⟨Nat.le_of_ble_eq_true rfl, Nat.le_of_ble_eq_true rfl⟩ ⟨rfl, rfl⟩ ⟨Nat.le_of_ble_eq_true rfl, Nat.le_of_ble_eq_true rfl⟩ (hP.sub [1, 2, 3, 4, 5] rfl) rfl rfl rfl rfl hl.1 rfl (Nat.le_of_ble_eq_true rfl) dX4_plate_73 ?_
        refine lv_istore (lv' := [(6, .int (zI ((pW P pts k (x + (w * y)) (if way % 2 = 1 then (lendV w h rch x y (cdB M P pts cnt w (x + w * y))) else -1))))), (5, .int (zI ((if way % 2 = 1 then (lendV w h rch x y (cdB M P pts cnt w (x + w * y))) else -1)))), (0, .ref xx), (1, .int (zI (k))), (2, .int (zI (x))), (3, .int (zI (y))), (4, .int (zI (way)))]) hx hb dX4_plate_76 hl (by decide) rfl (fun ls hl => ?_)
        refine lv_iload hx hb dX4_plate_78 (lv_at hl 6 rfl) ?_
        refine z_iconst hx hb dX4_plate_80 ?_
        refine z_icmp_lt (tgt := 96) hx hb dX4_plate_81 (by decide) (by omega) (by omega) (fun h81 => ?_) (fun h81 => ?_)
        · skip
          refine lv_iload hx hb dX4_plate_96 (lv_at hl 0 rfl) ?_
          refine vx_ret ?_
          exact z_wri () hx hb hr hlocks hK hP hD hS (by unfold cPla; rw [if_neg (by omega), if_pos (by omega)]) (by first | exact (if_pos h81).symm | exact (if_neg h81).symm) dX4_plate_98
        · skip
          refine lv_aload_n hx hb dX4_plate_84 rfl (lv_at hl 2 rfl) ?_
          refine gf_X4_30 hx hb hT hown hK hP 0 rfl rfl dX4_plate_85 ?_
          refine lv_iload hx hb dX4_plate_88 (lv_at hl 0 rfl) ?_
          refine z_callV (q0 := 0) (G := G) (As := [.int (zI ((pW P pts k (x + (w * y)) (if way % 2 = 1 then (lendV w h rch x y (cdB M P pts cnt w (x + w * y))) else -1))))]) (rest := []) hx hb hml hown hT hK (c_X1_bent l G cv ca cb cc L V ((pW P pts k (x + (w * y)) (if way % 2 = 1 then (lendV w h rch x y (cdB M P pts cnt w (x + w * y))) else -1))) hvv (by omega)) kc_X4_110 ⟨Nat.le_of_ble_eq_true rfl, Nat.le_of_ble_eq_true rfl⟩ ⟨rfl, rfl⟩ ⟨Nat.le_of_ble_eq_true rfl, Nat.le_of_ble_eq_true rfl⟩ (hP.sub [6, 7, 8] rfl) rfl rfl rfl rfl hl.1 rfl (Nat.le_of_ble_eq_true rfl) dX4_plate_90 ?_
          refine z_goto (tgt := 98) hx hb dX4_plate_93 (by decide) ?_
          refine vx_ret ?_
          exact z_wri () hx hb hr hlocks hK hP hD hS (by unfold cPla; rw [if_neg (by omega), if_pos (by omega)]) (by first | exact (if_pos h81).symm | exact (if_neg h81).symm) dX4_plate_98
      intro J53
      refine lv_iload hx hb dX4_plate_32 (lv_at hl 4 rfl) ?_
      refine z_iconst hx hb dX4_plate_34 ?_
      refine z_irem hx hb dX4_plate_35 (by omega) (by omega) ?_
      refine z_iconst hx hb dX4_plate_36 ?_
      refine z_icmp_ne (tgt := 52) hx hb dX4_plate_37 (by decide) (by omega) (by omega) (fun h37 => ?_) (fun h37 => ?_)
      · skip
        refine z_iconst hx hb dX4_plate_52 ?_
        refine z_top (if way % 2 = 1 then (lendV w h rch x y (cdB M P pts cnt w (x + w * y))) else -1) (by split <;> first | rfl | omega) ?_
        exact J53 (ls) _ _ ⟨trivial, lv_sub hl [0, 1, 2, 3, 4] rfl⟩ hP hD hS
      · skip
        refine lv_aload_n hx hb dX4_plate_40 rfl (lv_at hl 0 rfl) ?_
        refine gf_X4_23 hx hb hT hown hK hP 0 rfl rfl dX4_plate_41 ?_
        refine lv_iload_n hx hb dX4_plate_44 rfl (lv_at hl 2 rfl) ?_
        refine lv_iload_n hx hb dX4_plate_45 rfl (lv_at hl 3 rfl) ?_
        refine z_callV (q0 := 0) (G := G) (As := [.int (zI (x)), .int (zI (y))]) (rest := []) hx hb hml hown hT hK (c_X3_lenderOf l G pg ik mx co pa w h pts cnt most rch M C P (x) (y) hp (by omega) (by omega)) kc_X4_103 ⟨Nat.le_of_ble_eq_true rfl, Nat.le_of_ble_eq_true rfl⟩ ⟨rfl, rfl⟩ ⟨Nat.le_of_ble_eq_true rfl, Nat.le_of_ble_eq_true rfl⟩ (hP.sub [1, 2, 3, 4, 5] rfl) rfl rfl rfl rfl hl.1 rfl (Nat.le_of_ble_eq_true rfl) dX4_plate_46 ?_
        refine z_goto (tgt := 53) hx hb dX4_plate_49 (by decide) ?_
        refine z_top (if way % 2 = 1 then (lendV w h rch x y (cdB M P pts cnt w (x + w * y))) else -1) (by split <;> first | rfl | omega) ?_
        exact J53 (ls) _ _ ⟨trivial, lv_sub hl [0, 1, 2, 3, 4] rfl⟩ hP hD hS
    · skip
      exact z_throw (text := "a way is 0 to 3") hx hb hst hown hT hX kt_IAE (by decide +kernel) hml hl.1 htab hlocks dX4_plate_11 dX4_plate_14 dX4_plate_15 dX4_plate_17 dX4_plate_20 (Nat.le_of_ble_eq_true rfl) (Nat.le_of_ble_eq_true rfl) ⟨Nat.le_of_ble_eq_true rfl, Nat.le_of_ble_eq_true rfl⟩ (Nat.le_of_ble_eq_true rfl) (Nat.le_of_ble_eq_true rfl) (Or.inl ⟨rfl, if_pos (by omega)⟩)

set_option maxHeartbeats 4000000 in
set_option maxRecDepth 100000 in
theorem c_X4_seen (l : Launch) (hst : l.stackTraces = false) (G : zG) (xx pg ik mx co pa cv ca cb ar : Nat) (nx w h pts cnt most rch : Int) (M C P : Int → Int) (cc : Int) (L V : Int → Int) (F : Nat → Option Nat) (x y b tr : Int) (hp : pgOK w h pts cnt most rch M C P) (hvv : cvOK cc L V) (hnx : 0 ≤ nx ∧ nx ≤ 6) (hx : -2147483648 ≤ x ∧ x ≤ 2147483647) (hy : -2147483648 ≤ y ∧ y ≤ 2147483647) (hb : -2147483648 ≤ b ∧ b ≤ 2147483647) (htr : 0 ≤ tr ∧ tr ≤ 1) : zXi l yX4_seen cX4_seen 6 (some .int) { frames := 8, cells := 2, slots := 12, locals := 123 } G [.ref xx, .int (zI (x)), .int (zI (y)), .int (zI (b)), .int (zI (tr))] (xL G xx pg ik mx co pa cv ca cb ar nx w h pts cnt most rch M C P cc L V F) (S := Unit) (fun u => (bandV M P pts cnt b (x + w * y) (if tr = 0 then -1 else (lendV w h rch x y (cdB M P pts cnt w (x + w * y)))))) (fun u => cSee x y b w h = 0) (fun u => xL G xx pg ik mx co pa cv ca cb ar nx w h pts cnt most rch M C P cc L V F) (fun E => E = "java/lang/ArrayIndexOutOfBoundsException" ∧ cSee x y b w h = 1) := by
  intro sz
  refine vx_ofW (cc := cX4_seen) (maxL := 6) (ret := (some .int)) (by decide) rfl ?_
  intro p e s m args below meth c s₁ B hml htab hv
  obtain ⟨rfl, hsz, hP, hK, hD0, hX⟩ := hv
  have hx := B.exec
  have hb := B.bytes
  have hr := B.returns
  have hT : ∀ w ∈ TB, w.before _ s = true := fun w h => atoms_spec (ws := Cond.code yX4_seen cX4_seen 6 (some .int) :: TB) B.pre w (List.mem_cons_of_mem _ h)
  have hown : s.vm.findClass RX4 = some m.cls := findClass_of_methodNamed B.named
  have hlocks := B.notSynchronized
  subst hsz
  have hD := hD0.self (sz := s.heap.size)
  generalize hAe : va_A (xL G xx pg ik mx co pa cv ca cb ar nx w h pts cnt most rch M C P cc L V F) s.heap.size = A at hD hX ⊢
  have hA : ∀ q : Nat, s.heap.size ≤ q → A q := fun q h => by rw [← hAe]; exact Or.inr h
  have hS : va_S A s.heap s.heap [] := va_S.rf
  have hsub : ∀ q, va_A (xL G xx pg ik mx co pa cv ca cb ar nx w h pts cnt most rch M C P cc L V F) s.heap.size q → A q := fun q h => by rw [← hAe]; exact h
  have hP : zP G (xL G xx pg ik mx co pa cv ca cb ar nx w h pts cnt most rch M C P cc L V F) s.heap := hP
  have hD : va_D A (xL G xx pg ik mx co pa cv ca cb ar nx w h pts cnt most rch M C P cc L V F) := hD
  have hl := lv_entry ([.ref xx, .int (zI (x)), .int (zI (y)), .int (zI (b)), .int (zI (tr))]) (n := 6) (Nat.le_of_ble_eq_true rfl)
  rw [lg_entry_eq]
  generalize (lg_sl ([.ref xx, .int (zI (x)), .int (zI (y)), .int (zI (b)), .int (zI (tr))]) ++ List.replicate (6 - (lg_sl ([.ref xx, .int (zI (x)), .int (zI (y)), .int (zI (b)), .int (zI (tr))])).length) Slot.unset).toArray = ls at hl ⊢
  have hl : lv_has ls 6 [(0, .ref xx), (1, .int (zI (x))), (2, .int (zI (y))), (3, .int (zI (b))), (4, .int (zI (tr)))] := hl
  obtain ⟨hw, hh, hpts, hcnt, hmost, hrch, hM, hC, hB⟩ := id hp
  have hpt := pgOK_pts hp
  obtain ⟨hcc, hL0, hLe, hLs, hLb, hVb⟩ := id hvv
  refine lv_aload_n hx hb dX4_seen_0 rfl (lv_at hl 0 rfl) ?_
  refine lv_iload_n hx hb dX4_seen_1 rfl (lv_at hl 1 rfl) ?_
  refine lv_iload_n hx hb dX4_seen_2 rfl (lv_at hl 2 rfl) ?_
  refine z_xt (G := G) (q0 := 0) (As := [.int (zI (x)), .int (zI (y))]) (rest := []) hx hb hml hown hT hK htab hlocks hX (c_X4_checkPoint l hst G xx pg ik mx co pa cv ca cb ar nx w h pts cnt most rch M C P cc L V F (x) (y) hp hvv hnx (by omega) (by omega)) kc_X4_100 ⟨Nat.le_of_ble_eq_true rfl, Nat.le_of_ble_eq_true rfl⟩ ⟨Nat.le_of_ble_eq_true rfl, Nat.le_of_ble_eq_true rfl⟩ ⟨Nat.le_of_ble_eq_true rfl, Nat.le_of_ble_eq_true rfl⟩ hP hD0 hsub rfl rfl rfl rfl hl.1 rfl (Nat.le_of_ble_eq_true rfl) dX4_seen_3 (fun E9 h9 => ⟨h9.1, if_neg (fun h8 => h9.2 ⟨h8.1, h8.2.1⟩)⟩) (fun ok3 => ?_)
  refine lv_iload_n hx hb dX4_seen_6 rfl (lv_at hl 3 rfl) ?_
  refine z_if_lt (tgt := 15) hx hb dX4_seen_7 (by decide) (by omega) (fun h7 => ?_) (fun h7 => ?_)
  · skip
    exact z_throw (text := "there is no such band") hx hb hst hown hT hX kt_AIO (by decide +kernel) hml hl.1 htab hlocks dX4_seen_15 dX4_seen_18 dX4_seen_19 dX4_seen_21 dX4_seen_24 (Nat.le_of_ble_eq_true rfl) (Nat.le_of_ble_eq_true rfl) ⟨Nat.le_of_ble_eq_true rfl, Nat.le_of_ble_eq_true rfl⟩ (Nat.le_of_ble_eq_true rfl) (Nat.le_of_ble_eq_true rfl) (⟨rfl, if_neg (by omega)⟩)
  · skip
    refine lv_iload_n hx hb dX4_seen_10 rfl (lv_at hl 3 rfl) ?_
    refine z_iconst hx hb dX4_seen_11 ?_
    refine z_icmp_lt (tgt := 25) hx hb dX4_seen_12 (by decide) (by omega) (by omega) (fun h12 => ?_) (fun h12 => ?_)
    · skip
      have hpq := pt_b (w := w) (h := h) (x := x) (y := y) (by omega) (by omega)
      have hlb := lendV_b (w := w) (h := h) (rch := rch) (x := x) (y := y) (cdB M P pts cnt w (x + w * y)) (by omega) (by omega)
      have hln : -1 ≤ (if tr = 0 then -1 else (lendV w h rch x y (cdB M P pts cnt w (x + w * y)))) ∧ (if tr = 0 then -1 else (lendV w h rch x y (cdB M P pts cnt w (x + w * y)))) < w * h := by split <;> omega
      refine z_cutH (A := A) (H0 := s.heap) (G := G) (σ := Array Slot) (fun zq => F0 m 43 (zq) [.int (zI ((if tr = 0 then -1 else (lendV w h rch x y (cdB M P pts cnt w (x + w * y))))))]) (fun zq => (True) ∧ lv_has (zq) 6 [(0, .ref xx), (1, .int (zI (x))), (2, .int (zI (y))), (3, .int (zI (b))), (4, .int (zI (tr)))]) (fun zq => xL G xx pg ik mx co pa cv ca cb ar nx w h pts cnt most rch M C P cc L V F) ?_ ?_
      · intro ls H locs hq hP hD hS
        obtain ⟨hJ, hl⟩ := hq
        try dsimp only at hJ hl hP hD ⊢
        have hP : zP G (xL G xx pg ik mx co pa cv ca cb ar nx w h pts cnt most rch M C P cc L V F) H := hP
        have hD : va_D A (xL G xx pg ik mx co pa cv ca cb ar nx w h pts cnt most rch M C P cc L V F) := hD
        refine lv_istore (lv' := [(5, .int (zI ((if tr = 0 then -1 else (lendV w h rch x y (cdB M P pts cnt w (x + w * y))))))), (0, .ref xx), (1, .int (zI (x))), (2, .int (zI (y))), (3, .int (zI (b))), (4, .int (zI (tr)))]) hx hb dX4_seen_43 hl (by decide) rfl (fun ls hl => ?_)
        refine lv_aload_n hx hb dX4_seen_45 rfl (lv_at hl 1 rfl) ?_
        refine gf_X4_23 hx hb hT hown hK hP 0 rfl rfl dX4_seen_46 ?_
        refine lv_iload_n hx hb dX4_seen_49 rfl (lv_at hl 4 rfl) ?_
        refine lv_iload_n hx hb dX4_seen_50 rfl (lv_at hl 2 rfl) ?_
        refine lv_aload_n hx hb dX4_seen_51 rfl (lv_at hl 1 rfl) ?_
        refine gf_X4_23 hx hb hT hown hK hP 0 rfl rfl dX4_seen_52 ?_
        refine gf_X4_83 hx hb hT hown hK hP 1 rfl rfl dX4_seen_55 ?_
        refine lv_iload_n hx hb dX4_seen_58 rfl (lv_at hl 3 rfl) ?_
        refine z_imul hx hb dX4_seen_59 ?_
        refine z_iadd hx hb dX4_seen_60 ?_
        refine lv_iload hx hb dX4_seen_61 (lv_at hl 0 rfl) ?_
        refine z_callV (q0 := 0) (G := G) (As := [.int (zI (b)), .int (zI ((x + (w * y)))), .int (zI ((if tr = 0 then -1 else (lendV w h rch x y (cdB M P pts cnt w (x + w * y))))))]) (rest := []) hx hb hml hown hT hK (c_X3_bandOf l G pg ik mx co pa w h pts cnt most rch M C P (b) ((x + (w * y))) ((if tr = 0 then -1 else (lendV w h rch x y (cdB M P pts cnt w (x + w * y))))) hp (by omega) (by omega) (by omega)) kc_X4_119 ⟨Nat.le_of_ble_eq_true rfl, Nat.le_of_ble_eq_true rfl⟩ ⟨rfl, rfl⟩ ⟨Nat.le_of_ble_eq_true rfl, Nat.le_of_ble_eq_true rfl⟩ (hP.sub [1, 2, 3, 4, 5] rfl) rfl rfl rfl rfl hl.1 rfl (Nat.le_of_ble_eq_true rfl) dX4_seen_63 ?_
        refine vx_ret ?_
        refine W.widen (k := 2) (n := 12) (Nat.le_of_ble_eq_true rfl) (Nat.le_of_ble_eq_true rfl) ?_
        exact z_wri () hx hb hr hlocks hK hP hD hS (if_pos (by omega)) (rfl) dX4_seen_66
      intro J43
      refine lv_iload hx hb dX4_seen_25 (lv_at hl 4 rfl) ?_
      refine z_if_eq (tgt := 42) hx hb dX4_seen_27 (by decide) (by omega) (fun h27 => ?_) (fun h27 => ?_)
      · skip
        refine z_iconst hx hb dX4_seen_42 ?_
        refine z_top (if tr = 0 then -1 else (lendV w h rch x y (cdB M P pts cnt w (x + w * y)))) (by split <;> first | rfl | omega) ?_
        exact J43 (ls) _ _ ⟨trivial, lv_sub hl [0, 1, 2, 3, 4] rfl⟩ hP hD hS
      · skip
        refine lv_aload_n hx hb dX4_seen_30 rfl (lv_at hl 0 rfl) ?_
        refine gf_X4_23 hx hb hT hown hK hP 0 rfl rfl dX4_seen_31 ?_
        refine lv_iload_n hx hb dX4_seen_34 rfl (lv_at hl 1 rfl) ?_
        refine lv_iload_n hx hb dX4_seen_35 rfl (lv_at hl 2 rfl) ?_
        refine z_callV (q0 := 0) (G := G) (As := [.int (zI (x)), .int (zI (y))]) (rest := []) hx hb hml hown hT hK (c_X3_lenderOf l G pg ik mx co pa w h pts cnt most rch M C P (x) (y) hp (by omega) (by omega)) kc_X4_103 ⟨Nat.le_of_ble_eq_true rfl, Nat.le_of_ble_eq_true rfl⟩ ⟨rfl, rfl⟩ ⟨Nat.le_of_ble_eq_true rfl, Nat.le_of_ble_eq_true rfl⟩ (hP.sub [1, 2, 3, 4, 5] rfl) rfl rfl rfl rfl hl.1 rfl (Nat.le_of_ble_eq_true rfl) dX4_seen_36 ?_
        refine z_goto (tgt := 43) hx hb dX4_seen_39 (by decide) ?_
        refine z_top (if tr = 0 then -1 else (lendV w h rch x y (cdB M P pts cnt w (x + w * y)))) (by split <;> first | rfl | omega) ?_
        exact J43 (ls) _ _ ⟨trivial, lv_sub hl [0, 1, 2, 3, 4] rfl⟩ hP hD hS
    · skip
      exact z_throw (text := "there is no such band") hx hb hst hown hT hX kt_AIO (by decide +kernel) hml hl.1 htab hlocks dX4_seen_15 dX4_seen_18 dX4_seen_19 dX4_seen_21 dX4_seen_24 (Nat.le_of_ble_eq_true rfl) (Nat.le_of_ble_eq_true rfl) ⟨Nat.le_of_ble_eq_true rfl, Nat.le_of_ble_eq_true rfl⟩ (Nat.le_of_ble_eq_true rfl) (Nat.le_of_ble_eq_true rfl) (⟨rfl, if_neg (by omega)⟩)

set_option maxHeartbeats 4000000 in
set_option maxRecDepth 100000 in
theorem c_X4_gain (l : Launch) (hst : l.stackTraces = false) (G : zG) (xx pg ik mx co pa cv ca cb ar : Nat) (nx w h pts cnt most rch : Int) (M C P : Int → Int) (cc : Int) (L V : Int → Int) (F : Nat → Option Nat) (v x : Int) (hp : pgOK w h pts cnt most rch M C P) (hvv : cvOK cc L V) (hnx : 0 ≤ nx ∧ nx ≤ 6) (hv : -2147483648 ≤ v ∧ v ≤ 2147483647) (hx : -2147483648 ≤ x ∧ x ≤ 2147483647) : zXv l yX4_gain cX4_gain 3 { frames := 6, cells := 1, slots := 6, locals := 82 } G [.ref xx, .int (zI (v)), .int (zI (x))] (xL G xx pg ik mx co pa cv ca cb ar nx w h pts cnt most rch M C P cc L V F) (S := Unit) (fun u => cGai v x (if cc < 12 ∨ L (ffV cc L v) = v then 0 else 1) = 0) (fun u => xL G xx pg ik mx co pa cv ca cb ar nx w h pts cnt most rch M C P (putC cc L v) (putF cc L v L v) (putF cc L v V x) F) (fun E => (E = "java/lang/IllegalArgumentException" ∧ cGai v x (if cc < 12 ∨ L (ffV cc L v) = v then 0 else 1) = 1) ∨ (E = "java/lang/UnsupportedOperationException" ∧ cGai v x (if cc < 12 ∨ L (ffV cc L v) = v then 0 else 1) = 2)) := by
  intro sz
  refine vx_ofW (cc := cX4_gain) (maxL := 3) (ret := none) (by decide) rfl ?_
  intro p e s m args below meth c s₁ B hml htab hv
  obtain ⟨rfl, hsz, hP, hK, hD0, hX⟩ := hv
  have hx := B.exec
  have hb := B.bytes
  have hr := B.returns
  have hT : ∀ w ∈ TB, w.before _ s = true := fun w h => atoms_spec (ws := Cond.code yX4_gain cX4_gain 3 none :: TB) B.pre w (List.mem_cons_of_mem _ h)
  have hown : s.vm.findClass RX4 = some m.cls := findClass_of_methodNamed B.named
  have hlocks := B.notSynchronized
  subst hsz
  have hD := hD0.self (sz := s.heap.size)
  generalize hAe : va_A (xL G xx pg ik mx co pa cv ca cb ar nx w h pts cnt most rch M C P cc L V F) s.heap.size = A at hD hX ⊢
  have hA : ∀ q : Nat, s.heap.size ≤ q → A q := fun q h => by rw [← hAe]; exact Or.inr h
  have hS : va_S A s.heap s.heap [] := va_S.rf
  have hsub : ∀ q, va_A (xL G xx pg ik mx co pa cv ca cb ar nx w h pts cnt most rch M C P cc L V F) s.heap.size q → A q := fun q h => by rw [← hAe]; exact h
  have hP : zP G (xL G xx pg ik mx co pa cv ca cb ar nx w h pts cnt most rch M C P cc L V F) s.heap := hP
  have hD : va_D A (xL G xx pg ik mx co pa cv ca cb ar nx w h pts cnt most rch M C P cc L V F) := hD
  have hl := lv_entry ([.ref xx, .int (zI (v)), .int (zI (x))]) (n := 3) (Nat.le_of_ble_eq_true rfl)
  rw [lg_entry_eq]
  generalize (lg_sl ([.ref xx, .int (zI (v)), .int (zI (x))]) ++ List.replicate (3 - (lg_sl ([.ref xx, .int (zI (v)), .int (zI (x))])).length) Slot.unset).toArray = ls at hl ⊢
  have hl : lv_has ls 3 [(0, .ref xx), (1, .int (zI (v))), (2, .int (zI (x)))] := hl
  obtain ⟨hw, hh, hpts, hcnt, hmost, hrch, hM, hC, hB⟩ := id hp
  have hpt := pgOK_pts hp
  obtain ⟨hcc, hL0, hLe, hLs, hLb, hVb⟩ := id hvv
  refine lv_iload_n hx hb dX4_gain_0 rfl (lv_at hl 1 rfl) ?_
  refine z_callS (G := G) (As := [.int (zI (v))]) (rest := []) hx hb hml hown hT hK (c_X4_isByte l G (v) (by omega)) kc_X4_44 ⟨Nat.le_of_ble_eq_true rfl, Nat.le_of_ble_eq_true rfl⟩ ⟨rfl, rfl⟩ ⟨Nat.le_of_ble_eq_true rfl, Nat.le_of_ble_eq_true rfl⟩ (hP.sub [] rfl) rfl hl.1 rfl (Nat.le_of_ble_eq_true rfl) dX4_gain_1 ?_
  refine z_if_eq (tgt := 14) hx hb dX4_gain_4 (by decide) (bI_rng _) (fun h4 => ?_) (fun h4 => ?_)
  · skip
    have h4 := bI_f.mp h4
    simp only [Bool.and_eq_true, Bool.and_eq_false_iff, Bool.or_eq_true, Bool.or_eq_false_iff, decide_eq_true_eq, decide_eq_false_iff_not] at h4
    exact z_throw (text := "a curve's point is of bytes") hx hb hst hown hT hX kt_IAE (by decide +kernel) hml hl.1 htab hlocks dX4_gain_14 dX4_gain_17 dX4_gain_18 dX4_gain_20 dX4_gain_23 (Nat.le_of_ble_eq_true rfl) (Nat.le_of_ble_eq_true rfl) ⟨Nat.le_of_ble_eq_true rfl, Nat.le_of_ble_eq_true rfl⟩ (Nat.le_of_ble_eq_true rfl) (Nat.le_of_ble_eq_true rfl) (Or.inl ⟨rfl, if_neg (by omega)⟩)
  · skip
    have h4 := bI_t.mp h4
    simp only [Bool.and_eq_true, Bool.and_eq_false_iff, Bool.or_eq_true, Bool.or_eq_false_iff, decide_eq_true_eq, decide_eq_false_iff_not] at h4
    refine lv_iload_n hx hb dX4_gain_7 rfl (lv_at hl 2 rfl) ?_
    refine z_callS (G := G) (As := [.int (zI (x))]) (rest := []) hx hb hml hown hT hK (c_X4_isByte l G (x) (by omega)) kc_X4_44 ⟨Nat.le_of_ble_eq_true rfl, Nat.le_of_ble_eq_true rfl⟩ ⟨rfl, rfl⟩ ⟨Nat.le_of_ble_eq_true rfl, Nat.le_of_ble_eq_true rfl⟩ (hP.sub [] rfl) rfl hl.1 rfl (Nat.le_of_ble_eq_true rfl) dX4_gain_8 ?_
    refine z_if_ne (tgt := 24) hx hb dX4_gain_11 (by decide) (bI_rng _) (fun h11 => ?_) (fun h11 => ?_)
    · skip
      have h11 := bI_t.mp h11
      simp only [Bool.and_eq_true, Bool.and_eq_false_iff, Bool.or_eq_true, Bool.or_eq_false_iff, decide_eq_true_eq, decide_eq_false_iff_not] at h11
      refine lv_aload_n hx hb dX4_gain_24 rfl (lv_at hl 0 rfl) ?_
      refine gf_X4_30 hx hb hT hown hK hP 0 rfl rfl dX4_gain_25 ?_
      refine lv_iload_n hx hb dX4_gain_28 rfl (lv_at hl 1 rfl) ?_
      refine z_callV (q0 := 0) (G := G) (As := [.int (zI (v))]) (rest := []) hx hb hml hown hT hK (c_X1_hasRoomFor l G cv ca cb cc L V (v) hvv (by omega)) kc_X4_129 ⟨Nat.le_of_ble_eq_true rfl, Nat.le_of_ble_eq_true rfl⟩ ⟨rfl, rfl⟩ ⟨Nat.le_of_ble_eq_true rfl, Nat.le_of_ble_eq_true rfl⟩ (hP.sub [6, 7, 8] rfl) rfl rfl rfl rfl hl.1 rfl (Nat.le_of_ble_eq_true rfl) dX4_gain_29 ?_
      refine z_if_ne (tgt := 45) hx hb dX4_gain_32 (by decide) (bI_rng _) (fun h32 => ?_) (fun h32 => ?_)
      · skip
        have h32 := bI_t.mp h32
        simp only [Bool.and_eq_true, Bool.and_eq_false_iff, Bool.or_eq_true, Bool.or_eq_false_iff, decide_eq_true_eq, decide_eq_false_iff_not] at h32
        refine lv_aload_n hx hb dX4_gain_45 rfl (lv_at hl 0 rfl) ?_
        refine gf_X4_30 hx hb hT hown hK hP 0 rfl rfl dX4_gain_46 ?_
        refine lv_iload_n hx hb dX4_gain_49 rfl (lv_at hl 1 rfl) ?_
        refine lv_iload_n hx hb dX4_gain_50 rfl (lv_at hl 2 rfl) ?_
        refine z_wVv (q0 := 0) (G := G) (X := xL G xx pg ik mx co pa cv ca cb ar nx w h pts cnt most rch M C P cc L V F) (pl := []) (As := [.int (zI (v)), .int (zI (x))]) (rest := []) hx hb hml hown hT hK (c_X1_put l G cv ca cb cc L V (v) (x) hvv (by omega) (by omega)) kc_X4_134 ⟨Nat.le_of_ble_eq_true rfl, Nat.le_of_ble_eq_true rfl⟩ ⟨Nat.le_of_ble_eq_true rfl, Nat.le_of_ble_eq_true rfl⟩ hP hD hS hA [6, 7, 8] [0, 1, 2, 3, 4, 5, 9] (wr := [(xx, .inr (5, [.ref pg, .ref cv, .ref ar, .int (zI (nx))])), (pg, .inr (4, [.int (zI (w)), .int (zI (h)), .int (zI (pts)), .ref ik, .ref pa, .int (zI (most)), .int (zI (rch))])), (ik, .inr (3, [.ref mx, .ref co, .int (zI (cnt))])), ia G pa ((8 * pts).toNat) P, ia G mx 32 M, ia G co 8 C, aq G ar 6 F]) rfl rfl rfl rfl (by decide) rfl rfl rfl rfl hl.1 rfl (Nat.le_of_ble_eq_true rfl) dX4_gain_51 (fun u9 H locs hok9 hP hD hS => ?_)
        have hP : zP G (xL G xx pg ik mx co pa cv ca cb ar nx w h pts cnt most rch M C P (putC cc L v) (putF cc L v L v) (putF cc L v V x) F) H := va_P.sub hP [0, 1, 2, 3, 4, 5, 7, 8, 9, 6] rfl
        have hD : va_D A (xL G xx pg ik mx co pa cv ca cb ar nx w h pts cnt most rch M C P (putC cc L v) (putF cc L v L v) (putF cc L v V x) F) := va_D.sub hD [0, 1, 2, 3, 4, 5, 7, 8, 9, 6] (by decide) rfl
        refine vx_ret ?_
        refine W.widen (k := 1) (n := 6) (Nat.le_of_ble_eq_true rfl) (Nat.le_of_ble_eq_true rfl) ?_
        exact z_wrv () hx hb hr hlocks hK hP hD hS (by unfold cGai; rw [if_pos (by omega), if_pos (by omega : (cc < 12 ∨ L (ffV cc L v) = v))]; rfl) dX4_gain_54
      · skip
        have h32 := bI_f.mp h32
        simp only [Bool.and_eq_true, Bool.and_eq_false_iff, Bool.or_eq_true, Bool.or_eq_false_iff, decide_eq_true_eq, decide_eq_false_iff_not] at h32
        exact z_throw (text := "the curve has 12 points") hx hb hst hown hT hX kt_UOE (by decide +kernel) hml hl.1 htab hlocks dX4_gain_35 dX4_gain_38 dX4_gain_39 dX4_gain_41 dX4_gain_44 (Nat.le_of_ble_eq_true rfl) (Nat.le_of_ble_eq_true rfl) ⟨Nat.le_of_ble_eq_true rfl, Nat.le_of_ble_eq_true rfl⟩ (Nat.le_of_ble_eq_true rfl) (Nat.le_of_ble_eq_true rfl) (Or.inr ⟨rfl, by unfold cGai; rw [if_pos (by omega), if_neg (by omega : ¬ (cc < 12 ∨ L (ffV cc L v) = v))]; rfl⟩)
    · skip
      have h11 := bI_f.mp h11
      simp only [Bool.and_eq_true, Bool.and_eq_false_iff, Bool.or_eq_true, Bool.or_eq_false_iff, decide_eq_true_eq, decide_eq_false_iff_not] at h11
      exact z_throw (text := "a curve's point is of bytes") hx hb hst hown hT hX kt_IAE (by decide +kernel) hml hl.1 htab hlocks dX4_gain_14 dX4_gain_17 dX4_gain_18 dX4_gain_20 dX4_gain_23 (Nat.le_of_ble_eq_true rfl) (Nat.le_of_ble_eq_true rfl) ⟨Nat.le_of_ble_eq_true rfl, Nat.le_of_ble_eq_true rfl⟩ (Nat.le_of_ble_eq_true rfl) (Nat.le_of_ble_eq_true rfl) (Or.inl ⟨rfl, if_neg (by omega)⟩)

set_option maxHeartbeats 4000000 in
set_option maxRecDepth 100000 in
theorem c_X4_covered (l : Launch) (hst : l.stackTraces = false) (G : zG) (xx pg ik mx co pa cv ca cb ar : Nat) (nx w h pts cnt most rch : Int) (M C P : Int → Int) (cc : Int) (L V : Int → Int) (F : Nat → Option Nat) (k : Int) (hp : pgOK w h pts cnt most rch M C P) (hvv : cvOK cc L V) (hnx : 0 ≤ nx ∧ nx ≤ 6) (hk : -2147483648 ≤ k ∧ k ≤ 2147483647) : zXl l yX4_covered cX4_covered 5 (some .long) { frames := 8, cells := 1, slots := 6, locals := 116 } G [.ref xx, .int (zI (k))] (xL G xx pg ik mx co pa cv ca cb ar nx w h pts cnt most rch M C P cc L V F) (S := Unit) (fun u => (zsum (fun p9 => P (k * pts + p9)) pts.toNat)) (fun u => cCov k cnt = 0) (fun u => xL G xx pg ik mx co pa cv ca cb ar nx w h pts cnt most rch M C P cc L V F) (fun E => E = "java/lang/ArrayIndexOutOfBoundsException" ∧ cCov k cnt = 1) := by
  intro sz
  refine vx_ofW (cc := cX4_covered) (maxL := 5) (ret := (some .long)) (by decide) rfl ?_
  intro p e s m args below meth c s₁ B hml htab hv
  obtain ⟨rfl, hsz, hP, hK, hD0, hX⟩ := hv
  have hx := B.exec
  have hb := B.bytes
  have hr := B.returns
  have hT : ∀ w ∈ TB, w.before _ s = true := fun w h => atoms_spec (ws := Cond.code yX4_covered cX4_covered 5 (some .long) :: TB) B.pre w (List.mem_cons_of_mem _ h)
  have hown : s.vm.findClass RX4 = some m.cls := findClass_of_methodNamed B.named
  have hlocks := B.notSynchronized
  subst hsz
  have hD := hD0.self (sz := s.heap.size)
  generalize hAe : va_A (xL G xx pg ik mx co pa cv ca cb ar nx w h pts cnt most rch M C P cc L V F) s.heap.size = A at hD hX ⊢
  have hA : ∀ q : Nat, s.heap.size ≤ q → A q := fun q h => by rw [← hAe]; exact Or.inr h
  have hS : va_S A s.heap s.heap [] := va_S.rf
  have hsub : ∀ q, va_A (xL G xx pg ik mx co pa cv ca cb ar nx w h pts cnt most rch M C P cc L V F) s.heap.size q → A q := fun q h => by rw [← hAe]; exact h
  have hP : zP G (xL G xx pg ik mx co pa cv ca cb ar nx w h pts cnt most rch M C P cc L V F) s.heap := hP
  have hD : va_D A (xL G xx pg ik mx co pa cv ca cb ar nx w h pts cnt most rch M C P cc L V F) := hD
  have hl := lv_entry ([.ref xx, .int (zI (k))]) (n := 5) (Nat.le_of_ble_eq_true rfl)
  rw [lg_entry_eq]
  generalize (lg_sl ([.ref xx, .int (zI (k))]) ++ List.replicate (5 - (lg_sl ([.ref xx, .int (zI (k))])).length) Slot.unset).toArray = ls at hl ⊢
  have hl : lv_has ls 5 [(0, .ref xx), (1, .int (zI (k)))] := hl
  obtain ⟨hw, hh, hpts, hcnt, hmost, hrch, hM, hC, hB⟩ := id hp
  have hpt := pgOK_pts hp
  obtain ⟨hcc, hL0, hLe, hLs, hLb, hVb⟩ := id hvv
  refine lv_aload_n hx hb dX4_covered_0 rfl (lv_at hl 0 rfl) ?_
  refine lv_iload_n hx hb dX4_covered_1 rfl (lv_at hl 1 rfl) ?_
  refine z_xt (G := G) (q0 := 0) (As := [.int (zI (k))]) (rest := []) hx hb hml hown hT hK htab hlocks hX (c_X4_checkInk l hst G xx pg ik mx co pa cv ca cb ar nx w h pts cnt most rch M C P cc L V F (k) hp hvv hnx (by omega)) kc_X4_75 ⟨Nat.le_of_ble_eq_true rfl, Nat.le_of_ble_eq_true rfl⟩ ⟨Nat.le_of_ble_eq_true rfl, Nat.le_of_ble_eq_true rfl⟩ ⟨Nat.le_of_ble_eq_true rfl, Nat.le_of_ble_eq_true rfl⟩ hP hD0 hsub rfl rfl rfl rfl hl.1 rfl (Nat.le_of_ble_eq_true rfl) dX4_covered_2 (fun E9 h9 => ⟨h9.1, if_neg h9.2⟩) (fun ok2 => ?_)
  refine lv_lconst (v := zL 0) hx hb dX4_covered_5 rfl ?_
  refine z_topl (zsum (fun p9 => P (k * pts + p9)) (0 : Int).toNat) (rfl) ?_
  refine lv_lstore_n (lv' := [(2, .long (zL (zsum (fun p9 => P (k * pts + p9)) (0 : Int).toNat))), (0, .ref xx), (1, .int (zI (k)))]) hx hb dX4_covered_6 rfl hl (by decide) rfl (fun ls hl => ?_)
  refine z_iconst hx hb dX4_covered_7 ?_
  refine lv_istore (lv' := [(4, .int (zI (0))), (2, .long (zL (zsum (fun p9 => P (k * pts + p9)) (0 : Int).toNat))), (0, .ref xx), (1, .int (zI (k)))]) hx hb dX4_covered_8 hl (by decide) rfl (fun ls hl => ?_)
  refine z_loopH (σ := Int × Array Slot) (fun zq => F0 m 10 (zq.2) []) (fun zq => (0 ≤ zq.1 ∧ zq.1 ≤ pts) ∧ lv_has (zq.2) 5 [(0, .ref xx), (1, .int (zI (k))), (2, .long (zL (zsum (fun p9 => P (k * pts + p9)) zq.1.toNat))), (4, .int (zI (zq.1)))]) (fun zq => xL G xx pg ik mx co pa cv ca cb ar nx w h pts cnt most rch M C P cc L V F) (fun zq => (pts - zq.1).toNat) ?_ (0, ls) ⟨by refine ⟨?_, ?_⟩ <;> omega, lv_sub hl [2, 3, 1, 0] rfl⟩ hP hD hS
  intro zq H locs hq hP hD hS ih
  obtain ⟨q, ls⟩ := zq
  obtain ⟨hI, hl⟩ := hq
  try dsimp only at hI hl ih hP hD ⊢
  have hP : zP G (xL G xx pg ik mx co pa cv ca cb ar nx w h pts cnt most rch M C P cc L V F) H := hP
  have hD : va_D A (xL G xx pg ik mx co pa cv ca cb ar nx w h pts cnt most rch M C P cc L V F) := hD
  have ih10 := ih
  refine lv_iload hx hb dX4_covered_10 (lv_at hl 3 rfl) ?_
  refine lv_aload_n hx hb dX4_covered_12 rfl (lv_at hl 0 rfl) ?_
  refine gf_X4_23 hx hb hT hown hK hP 0 rfl rfl dX4_covered_13 ?_
  refine gf_X4_171 hx hb hT hown hK hP 1 rfl rfl dX4_covered_16 ?_
  refine z_icmp_ge (tgt := 42) hx hb dX4_covered_19 (by decide) (by omega) (by omega) (fun h19 => ?_) (fun h19 => ?_)
  · skip
    refine lv_lload_n hx hb dX4_covered_42 rfl (lv_at hl 2 rfl) ?_
    refine vx_ret ?_
    exact z_wrl () hx hb hr hlocks hK hP hD hS (if_pos (by omega)) (by have hkc : q = pts := (by omega); rw [hkc]) dX4_covered_43
  · skip
    refine lv_lload_n hx hb dX4_covered_22 rfl (lv_at hl 2 rfl) ?_
    refine lv_aload_n hx hb dX4_covered_23 rfl (lv_at hl 0 rfl) ?_
    refine gf_X4_23 hx hb hT hown hK hP 0 rfl rfl dX4_covered_24 ?_
    refine lv_iload_n hx hb dX4_covered_27 rfl (lv_at hl 1 rfl) ?_
    refine lv_iload hx hb dX4_covered_28 (lv_at hl 3 rfl) ?_
    have hpp := hB (k * pts + q)
    refine z_callV (q0 := 0) (G := G) (As := [.int (zI (k)), .int (zI (q))]) (rest := [.long (zL (zsum (fun p9 => P (k * pts + p9)) q.toNat))]) hx hb hml hown hT hK (c_X3_byteAt l G pg ik mx co pa w h pts cnt most rch M C P (k) (q) hp (by omega) (by omega)) kc_X4_164 ⟨Nat.le_of_ble_eq_true rfl, Nat.le_of_ble_eq_true rfl⟩ ⟨rfl, rfl⟩ ⟨Nat.le_of_ble_eq_true rfl, Nat.le_of_ble_eq_true rfl⟩ (hP.sub [1, 2, 3, 4, 5] rfl) rfl rfl rfl rfl hl.1 rfl (Nat.le_of_ble_eq_true rfl) dX4_covered_30 ?_
    refine z_i2l hx hb dX4_covered_33 (by omega) ?_
    refine z_ladd hx hb dX4_covered_34 ?_
    refine z_topl (zsum (fun p9 => P (k * pts + p9)) (q + 1).toNat) ((zsum_s _ (by omega)).symm) ?_
    refine lv_lstore_n (lv' := [(2, .long (zL (zsum (fun p9 => P (k * pts + p9)) (q + 1).toNat))), (0, .ref xx), (1, .int (zI (k))), (4, .int (zI (q)))]) hx hb dX4_covered_35 rfl hl (by decide) rfl (fun ls hl => ?_)
    refine lv_iinc (v := zI (q + (1))) (lv' := [(4, .int (zI (q + (1)))), (2, .long (zL (zsum (fun p9 => P (k * pts + p9)) (q + 1).toNat))), (0, .ref xx), (1, .int (zI (k)))]) hx hb dX4_covered_36 hl (k := 3) rfl (zI_add _ _) (by decide) rfl (fun ls hl => ?_)
    refine z_goto (tgt := 10) hx hb dX4_covered_39 (by decide) ?_
    exact ih10 (q + 1, ls) _ _ ⟨by refine ⟨?_, ?_⟩ <;> omega, lv_sub hl [2, 3, 1, 0] rfl⟩ (by omega) hP hD hS

set_option maxHeartbeats 4000000 in
set_option maxRecDepth 100000 in
theorem c_X4_packed (l : Launch) (hst : l.stackTraces = false) (G : zG) (xx pg ik mx co pa cv ca cb ar : Nat) (nx w h pts cnt most rch : Int) (M C P : Int → Int) (cc : Int) (L V : Int → Int) (F : Nat → Option Nat) (k i : Int) (hp : pgOK w h pts cnt most rch M C P) (hvv : cvOK cc L V) (hnx : 0 ≤ nx ∧ nx ≤ 6) (hk : -2147483648 ≤ k ∧ k ≤ 2147483647) (hi : -2147483648 ≤ i ∧ i ≤ 2147483647) : zXi l yX4_packed cX4_packed 4 (some .int) { frames := 8, cells := 2, slots := 12, locals := 116 } G [.ref xx, .int (zI (k)), .int (zI (i))] (xL G xx pg ik mx co pa cv ca cb ar nx w h pts cnt most rch M C P cc L V F) (S := Unit) (fun u => (if i = -1 then 2 * cntB (stR P pts w k) pts.toNat else (if i % 2 = 0 then endV (stR P pts w k) (srF (stR P pts w k) (i / 2) pts.toNat) pts - (srF (stR P pts w k) (i / 2) pts.toNat) else P (k * pts + (srF (stR P pts w k) (i / 2) pts.toNat))))) (fun u => cPac k i cnt (2 * cntB (stR P pts w k) pts.toNat) = 0) (fun u => xL G xx pg ik mx co pa cv ca cb ar nx w h pts cnt most rch M C P cc L V F) (fun E => E = "java/lang/ArrayIndexOutOfBoundsException" ∧ cPac k i cnt (2 * cntB (stR P pts w k) pts.toNat) = 1) := by
  intro sz
  refine vx_ofW (cc := cX4_packed) (maxL := 4) (ret := (some .int)) (by decide) rfl ?_
  intro p e s m args below meth c s₁ B hml htab hv
  obtain ⟨rfl, hsz, hP, hK, hD0, hX⟩ := hv
  have hx := B.exec
  have hb := B.bytes
  have hr := B.returns
  have hT : ∀ w ∈ TB, w.before _ s = true := fun w h => atoms_spec (ws := Cond.code yX4_packed cX4_packed 4 (some .int) :: TB) B.pre w (List.mem_cons_of_mem _ h)
  have hown : s.vm.findClass RX4 = some m.cls := findClass_of_methodNamed B.named
  have hlocks := B.notSynchronized
  subst hsz
  have hD := hD0.self (sz := s.heap.size)
  generalize hAe : va_A (xL G xx pg ik mx co pa cv ca cb ar nx w h pts cnt most rch M C P cc L V F) s.heap.size = A at hD hX ⊢
  have hA : ∀ q : Nat, s.heap.size ≤ q → A q := fun q h => by rw [← hAe]; exact Or.inr h
  have hS : va_S A s.heap s.heap [] := va_S.rf
  have hsub : ∀ q, va_A (xL G xx pg ik mx co pa cv ca cb ar nx w h pts cnt most rch M C P cc L V F) s.heap.size q → A q := fun q h => by rw [← hAe]; exact h
  have hP : zP G (xL G xx pg ik mx co pa cv ca cb ar nx w h pts cnt most rch M C P cc L V F) s.heap := hP
  have hD : va_D A (xL G xx pg ik mx co pa cv ca cb ar nx w h pts cnt most rch M C P cc L V F) := hD
  have hl := lv_entry ([.ref xx, .int (zI (k)), .int (zI (i))]) (n := 4) (Nat.le_of_ble_eq_true rfl)
  rw [lg_entry_eq]
  generalize (lg_sl ([.ref xx, .int (zI (k)), .int (zI (i))]) ++ List.replicate (4 - (lg_sl ([.ref xx, .int (zI (k)), .int (zI (i))])).length) Slot.unset).toArray = ls at hl ⊢
  have hl : lv_has ls 4 [(0, .ref xx), (1, .int (zI (k))), (2, .int (zI (i)))] := hl
  obtain ⟨hw, hh, hpts, hcnt, hmost, hrch, hM, hC, hB⟩ := id hp
  have hpt := pgOK_pts hp
  obtain ⟨hcc, hL0, hLe, hLs, hLb, hVb⟩ := id hvv
  refine lv_aload_n hx hb dX4_packed_0 rfl (lv_at hl 0 rfl) ?_
  refine lv_iload_n hx hb dX4_packed_1 rfl (lv_at hl 1 rfl) ?_
  refine z_xt (G := G) (q0 := 0) (As := [.int (zI (k))]) (rest := []) hx hb hml hown hT hK htab hlocks hX (c_X4_checkInk l hst G xx pg ik mx co pa cv ca cb ar nx w h pts cnt most rch M C P cc L V F (k) hp hvv hnx (by omega)) kc_X4_75 ⟨Nat.le_of_ble_eq_true rfl, Nat.le_of_ble_eq_true rfl⟩ ⟨Nat.le_of_ble_eq_true rfl, Nat.le_of_ble_eq_true rfl⟩ ⟨Nat.le_of_ble_eq_true rfl, Nat.le_of_ble_eq_true rfl⟩ hP hD0 hsub rfl rfl rfl rfl hl.1 rfl (Nat.le_of_ble_eq_true rfl) dX4_packed_2 (fun E9 h9 => ⟨h9.1, if_neg (fun h8 => h9.2 h8.1)⟩) (fun ok2 => ?_)
  have hcb0 := cntB_b (stR P pts w k) pts.toNat
  refine lv_iload_n hx hb dX4_packed_5 rfl (lv_at hl 2 rfl) ?_
  refine z_iconst hx hb dX4_packed_6 ?_
  refine z_icmp_ne (tgt := 21) hx hb dX4_packed_7 (by decide) (by omega) (by omega) (fun h7 => ?_) (fun h7 => ?_)
  · skip
    refine z_cut (σ := Int × Array Slot) (fun zq => F0 m 40 (zq.2) [.int (zI (zq.1))]) (fun zq => ((zq.1 = -1 ∧ i < 0) ∨ (0 ≤ i ∧ zq.1 = (srF (stR P pts w k) (i / 2) pts.toNat))) ∧ lv_has (zq.2) 4 [(0, .ref xx), (1, .int (zI (k))), (2, .int (zI (i)))]) ?_ ?_
    · intro zq hq
      obtain ⟨st0, ls⟩ := zq
      obtain ⟨hJ, hl⟩ := hq
      try dsimp only at hJ hl ⊢
      refine lv_istore_n (lv' := [(3, .int (zI (st0))), (0, .ref xx), (1, .int (zI (k))), (2, .int (zI (i)))]) hx hb dX4_packed_40 rfl hl (by decide) rfl (fun ls hl => ?_)
      have hsr : i < 0 ∨ ((srF (stR P pts w k) (i / 2) pts.toNat) = -1 ∧ cntB (stR P pts w k) pts.toNat ≤ i / 2) ∨ (0 ≤ (srF (stR P pts w k) (i / 2) pts.toNat) ∧ i / 2 < cntB (stR P pts w k) pts.toNat) := by by_cases h9 : i < 0; exact Or.inl h9; exact Or.inr (srF_iff _ (by omega) _)
      have hsb := srF_b (stR P pts w k) (i / 2) pts.toNat
      refine lv_iload_n hx hb dX4_packed_41 rfl (lv_at hl 0 rfl) ?_
      refine z_if_ge (tgt := 55) hx hb dX4_packed_42 (by decide) (by omega) (fun h42 => ?_) (fun h42 => ?_)
      · skip
        have hST : st0 = (srF (stR P pts w k) (i / 2) pts.toNat) := by omega
        have hpp := hB (k * pts + st0)
        refine lv_iload_n hx hb dX4_packed_55 rfl (lv_at hl 3 rfl) ?_
        refine z_iconst hx hb dX4_packed_56 ?_
        refine z_irem hx hb dX4_packed_57 (by omega) (by omega) ?_
        refine z_if_ne (tgt := 73) hx hb dX4_packed_58 (by decide) (by omega) (fun h58 => ?_) (fun h58 => ?_)
        · skip
          refine lv_aload_n hx hb dX4_packed_73 rfl (lv_at hl 1 rfl) ?_
          refine gf_X4_23 hx hb hT hown hK hP 0 rfl rfl dX4_packed_74 ?_
          refine lv_iload_n hx hb dX4_packed_77 rfl (lv_at hl 2 rfl) ?_
          refine lv_iload_n hx hb dX4_packed_78 rfl (lv_at hl 0 rfl) ?_
          refine z_callV (q0 := 0) (G := G) (As := [.int (zI (k)), .int (zI (st0))]) (rest := []) hx hb hml hown hT hK (c_X3_byteAt l G pg ik mx co pa w h pts cnt most rch M C P (k) (st0) hp (by omega) (by omega)) kc_X4_164 ⟨Nat.le_of_ble_eq_true rfl, Nat.le_of_ble_eq_true rfl⟩ ⟨rfl, rfl⟩ ⟨Nat.le_of_ble_eq_true rfl, Nat.le_of_ble_eq_true rfl⟩ (hP.sub [1, 2, 3, 4, 5] rfl) rfl rfl rfl rfl hl.1 rfl (Nat.le_of_ble_eq_true rfl) dX4_packed_79 ?_
          refine vx_ret ?_
          refine W.widen (k := 2) (n := 12) (Nat.le_of_ble_eq_true rfl) (Nat.le_of_ble_eq_true rfl) ?_
          exact z_wri () hx hb hr hlocks hK hP hD hS (if_pos (by omega)) (by rw [if_neg (by omega : ¬ i = -1), ← hST]; first | exact (if_pos h58).symm | exact (if_neg h58).symm) dX4_packed_82
        · skip
          refine lv_aload_n hx hb dX4_packed_61 rfl (lv_at hl 1 rfl) ?_
          refine gf_X4_23 hx hb hT hown hK hP 0 rfl rfl dX4_packed_62 ?_
          refine lv_iload_n hx hb dX4_packed_65 rfl (lv_at hl 2 rfl) ?_
          refine lv_iload_n hx hb dX4_packed_66 rfl (lv_at hl 0 rfl) ?_
          refine z_callV (q0 := 0) (G := G) (As := [.int (zI (k)), .int (zI (st0))]) (rest := []) hx hb hml hown hT hK (c_X3_lengthOfRun l G pg ik mx co pa w h pts cnt most rch M C P (k) (st0) hp (by omega) (by omega)) kc_X4_182 ⟨Nat.le_of_ble_eq_true rfl, Nat.le_of_ble_eq_true rfl⟩ ⟨rfl, rfl⟩ ⟨Nat.le_of_ble_eq_true rfl, Nat.le_of_ble_eq_true rfl⟩ (hP.sub [1, 2, 3, 4, 5] rfl) rfl rfl rfl rfl hl.1 rfl (Nat.le_of_ble_eq_true rfl) dX4_packed_67 ?_
          refine z_goto (tgt := 82) hx hb dX4_packed_70 (by decide) ?_
          refine vx_ret ?_
          refine W.widen (k := 2) (n := 12) (Nat.le_of_ble_eq_true rfl) (Nat.le_of_ble_eq_true rfl) ?_
          exact z_wri () hx hb hr hlocks hK hP hD hS (if_pos (by omega)) (by rw [if_neg (by omega : ¬ i = -1), ← hST]; first | exact (if_pos h58).symm | exact (if_neg h58).symm) dX4_packed_82
      · skip
        exact z_throw (text := "there is no such packed byte") hx hb hst hown hT hX kt_AIO (by decide +kernel) hml hl.1 htab hlocks dX4_packed_45 dX4_packed_48 dX4_packed_49 dX4_packed_51 dX4_packed_54 (Nat.le_of_ble_eq_true rfl) (Nat.le_of_ble_eq_true rfl) ⟨Nat.le_of_ble_eq_true rfl, Nat.le_of_ble_eq_true rfl⟩ (Nat.le_of_ble_eq_true rfl) (Nat.le_of_ble_eq_true rfl) (⟨rfl, if_neg (by omega)⟩)
    intro J40
    refine lv_iload_n hx hb dX4_packed_21 rfl (lv_at hl 2 rfl) ?_
    refine z_if_ge (tgt := 29) hx hb dX4_packed_22 (by decide) (by omega) (fun h22 => ?_) (fun h22 => ?_)
    · skip
      refine lv_aload_n hx hb dX4_packed_29 rfl (lv_at hl 0 rfl) ?_
      refine gf_X4_23 hx hb hT hown hK hP 0 rfl rfl dX4_packed_30 ?_
      refine lv_iload_n hx hb dX4_packed_33 rfl (lv_at hl 1 rfl) ?_
      refine lv_iload_n hx hb dX4_packed_34 rfl (lv_at hl 2 rfl) ?_
      refine z_iconst hx hb dX4_packed_35 ?_
      refine z_idiv hx hb dX4_packed_36 (by omega) (by omega) ?_
      refine z_callV (q0 := 0) (G := G) (As := [.int (zI (k)), .int (zI ((i / 2)))]) (rest := []) hx hb hml hown hT hK (c_X3_startOfRun l G pg ik mx co pa w h pts cnt most rch M C P (k) ((i / 2)) hp (by omega) (by omega)) kc_X4_177 ⟨Nat.le_of_ble_eq_true rfl, Nat.le_of_ble_eq_true rfl⟩ ⟨rfl, rfl⟩ ⟨Nat.le_of_ble_eq_true rfl, Nat.le_of_ble_eq_true rfl⟩ (hP.sub [1, 2, 3, 4, 5] rfl) rfl rfl rfl rfl hl.1 rfl (Nat.le_of_ble_eq_true rfl) dX4_packed_37 ?_
      exact J40 ((srF (stR P pts w k) (i / 2) pts.toNat), ls) ⟨by first | exact Or.inl ⟨rfl, by omega⟩ | exact Or.inr ⟨by omega, rfl⟩, lv_sub hl [0, 1, 2] rfl⟩
    · skip
      refine z_iconst hx hb dX4_packed_25 ?_
      refine z_goto (tgt := 40) hx hb dX4_packed_26 (by decide) ?_
      exact J40 ((-1), ls) ⟨by first | exact Or.inl ⟨rfl, by omega⟩ | exact Or.inr ⟨by omega, rfl⟩, lv_sub hl [0, 1, 2] rfl⟩
  · skip
    refine z_iconst hx hb dX4_packed_10 ?_
    refine lv_aload_n hx hb dX4_packed_11 rfl (lv_at hl 0 rfl) ?_
    refine gf_X4_23 hx hb hT hown hK hP 0 rfl rfl dX4_packed_12 ?_
    refine lv_iload_n hx hb dX4_packed_15 rfl (lv_at hl 1 rfl) ?_
    refine z_callV (q0 := 0) (G := G) (As := [.int (zI (k))]) (rest := [.int (zI (2))]) hx hb hml hown hT hK (c_X3_countRuns l G pg ik mx co pa w h pts cnt most rch M C P (k) hp (by omega)) kc_X4_174 ⟨Nat.le_of_ble_eq_true rfl, Nat.le_of_ble_eq_true rfl⟩ ⟨rfl, rfl⟩ ⟨Nat.le_of_ble_eq_true rfl, Nat.le_of_ble_eq_true rfl⟩ (hP.sub [1, 2, 3, 4, 5] rfl) rfl rfl rfl rfl hl.1 rfl (Nat.le_of_ble_eq_true rfl) dX4_packed_16 ?_
    refine z_imul hx hb dX4_packed_19 ?_
    refine vx_ret ?_
    refine W.widen (k := 2) (n := 12) (Nat.le_of_ble_eq_true rfl) (Nat.le_of_ble_eq_true rfl) ?_
    exact z_wri () hx hb hr hlocks hK hP hD hS (if_pos (by omega)) ((if_pos (by omega)).symm) dX4_packed_20
