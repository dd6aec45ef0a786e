theorem mvR_ext {b b' : Int → Int} {ex : Int} (h : ∀ k, 0 ≤ k → k < 8 → b k = b' k) : ∀ n : Nat, n ≤ 3 → mvR b ex n = mvR b' ex n := by
  intro n
  induction n with
  | zero => intro _; show min ((ex + 1) / 2) (255 - b 3) = min ((ex + 1) / 2) (255 - b' 3); rw [h 3 (by omega) (by omega)]
  | succ n ih => intro hn; show min (mvR b ex n) (b (n : Int)) = min (mvR b' ex n) (b' (n : Int)); rw [ih (by omega), h (n : Int) (by omega) (by omega)]
theorem mvF_ext {b b' : Int → Int} {ex : Int} (h : ∀ k, 0 ≤ k → k < 8 → b k = b' k) : ∀ k, 0 ≤ k → k < 8 → mvF b ex k = mvF b' ex k := by
  intro k h1 h2
  unfold mvF zu mvK
  rw [mvR_ext h 3 (by omega), h 3 (by omega) (by omega), h k h1 h2]
theorem shrF_ext {b b' : Int → Int} {cnt most : Int} (hc : cnt ≤ 8) (h : ∀ k, 0 ≤ k → k < 8 → b k = b' k) : ∀ k, 0 ≤ k → k < 8 → shrF b cnt most k = shrF b' cnt most k := by
  intro k h1 h2
  unfold shrF
  rw [zsum_congr (f := b) (g := b') cnt.toNat (fun k h3 h4 => h k h3 (by omega))]
  split
  · exact h k h1 h2
  · unfold zu shK; rw [h 3 (by omega) (by omega), h k h1 h2]
theorem norm_mv {P b : Int → Int} {pts q ex : Int} (hq : 0 ≤ q ∧ q < pts) : PS (PS P pts q b) pts q (mvF (colP (PS P pts q b) pts q) ex) = PS P pts q (mvF b ex) := by
  rw [PS_PS]; exact PS_ext _ (by omega) (mvF_ext (fun k h1 h2 => PS_at P b ⟨h1, h2⟩ hq))
theorem norm_sh {P b : Int → Int} {pts q cnt most : Int} (hc : cnt ≤ 8) (hq : 0 ≤ q ∧ q < pts) : PS (PS P pts q b) pts q (shrF (colP (PS P pts q b) pts q) cnt most) = PS P pts q (shrF b cnt most) := by
  rw [PS_PS]; exact PS_ext _ (by omega) (shrF_ext hc (fun k h1 h2 => PS_at P b ⟨h1, h2⟩ hq))
theorem shrF_b {b : Int → Int} {cnt most : Int} (hc : 4 ≤ cnt ∧ cnt ≤ 8) (hm : 0 ≤ most) (hb : ∀ k, 0 ≤ k → k < 8 → 0 ≤ b k ∧ b k ≤ 255) : ∀ k, 0 ≤ k → k < 8 → 0 ≤ shrF b cnt most k ∧ shrF b cnt most k ≤ 255 := by
  intro k h1 h2
  unfold shrF
  split
  · exact hb k h1 h2
  · have h3 := hb 3 (by omega) (by omega)
    obtain ⟨g1, -, -⟩ := zsum_ge (f := b) (fun k h1 h2 => (hb k h1 h2).1) cnt.toNat (by omega)
    have g2 := g1 3 (by omega) (by omega)
    unfold zu
    by_cases e : k = 3
    · rw [if_pos e]; omega
    · rw [if_neg e]; exact shK_b hb (by omega) (by omega) k h1 h2
theorem ptF_b {C b : Int → Int} {ov cnt most : Int} (hC : ∀ j, -1 ≤ C j ∧ C j ≤ 255) (hc : 4 ≤ cnt ∧ cnt ≤ 8) (hm : 0 ≤ most) (hb : ∀ k, 0 ≤ k → k < 8 → 0 ≤ b k ∧ b k ≤ 255) : ∀ k, 0 ≤ k → k < 8 → 0 ≤ ptF C ov cnt most b k ∧ ptF C ov cnt most b k ≤ 255 := by
  have h1 := pnF_b (ov := ov) (k := cnt) hC hb
  have h2 : zsum (pnF C ov b cnt) cnt.toNat ≤ 2040 := by
    have h3 : ∀ n : Nat, n ≤ 8 → zsum (pnF C ov b cnt) n ≤ 255 * n := by
      intro n
      induction n with
      | zero => intro _; exact Int.le_refl 0
      | succ n ih => intro hn; have a1 := ih (by omega); have a2 := h1 (n : Int) (by omega) (by omega); show zsum (pnF C ov b cnt) n + pnF C ov b cnt (n : Int) ≤ _; omega
    have h4 := h3 cnt.toNat (by omega); omega
  intro k h3 h4
  unfold ptF
  split
  · exact h1 k h3 h4
  · exact shrF_b hc hm (mvF_b h1 (by omega)) k h3 h4

theorem pt_sum {b : Int → Int} {cnt : Int} (hc : 4 ≤ cnt ∧ cnt ≤ 8) (hb : ∀ k, 0 ≤ k → k < 8 → 0 ≤ b k ∧ b k ≤ 255) : 0 ≤ zsum b cnt.toNat ∧ zsum b cnt.toNat ≤ 2040 := by
  have h3 : ∀ n : Nat, n ≤ 8 → 0 ≤ zsum b n ∧ zsum b n ≤ 255 * n := by
    intro n
    induction n with
    | zero => intro _; exact ⟨Int.le_refl 0, Int.le_refl 0⟩
    | succ n ih => intro hn; have a1 := ih (by omega); have a2 := hb (n : Int) (by omega) (by omega); show 0 ≤ zsum b n + b (n : Int) ∧ zsum b n + b (n : Int) ≤ _; omega
  have h4 := h3 cnt.toNat (by omega); omega
set_option maxHeartbeats 4000000 in
set_option maxRecDepth 100000 in
theorem c_X3_paintPoint (l : Launch) (G : zG) (pg ik mx co pa : Nat) (w h pts cnt most rch : Int) (M C P : Int → Int) (q ov : Int) (hp : pgOK w h pts cnt most rch M C P) (hq : 0 ≤ q ∧ q < pts) (hov : 0 ≤ ov ∧ ov ≤ 1) : zWv l yX3_paintPoint cX3_paintPoint 5 { frames := 3, cells := 0, slots := 0, locals := 71 } G [.ref pg, .int (zI (q)), .int (zI (ov))] (pgL G pg ik mx co pa w h pts cnt most rch M C P) (S := Unit) (fun u => True) (fun u => pgL G pg ik mx co pa w h pts cnt most rch M C (PS P pts q (ptF C ov cnt most (colP P pts q)))) := by
  intro sz
  refine Met.ofW (cc := cX3_paintPoint) (maxL := 5) (ret := none) (by decide) rfl ?_
  intro p e s m args below meth c s₁ B hml hv
  obtain ⟨rfl, hsz, hP, hK, hD0⟩ := hv
  have hx := B.exec
  have hb := B.bytes
  have hr := B.returns
  have hT : ∀ w ∈ TB, w.before _ s = true := fun w h => atoms_spec (ws := Cond.code yX3_paintPoint cX3_paintPoint 5 none :: TB) B.pre w (List.mem_cons_of_mem _ h)
  have hown : s.vm.findClass RX3 = some m.cls := findClass_of_methodNamed B.named
  have hlocks := B.notSynchronized
  subst hsz
  have hD := hD0.self (sz := s.heap.size)
  generalize hAe : va_A (pgL G pg ik mx co pa w h pts cnt most rch M C P) s.heap.size = A at hD ⊢
  have hA : ∀ q : Nat, s.heap.size ≤ q → A q := fun q h => by rw [← hAe]; exact Or.inr h
  have hS : va_S A s.heap s.heap [] := va_S.rf
  have hP : zP G (pgL G pg ik mx co pa w h pts cnt most rch M C P) s.heap := hP
  have hD : va_D A (pgL G pg ik mx co pa w h pts cnt most rch M C P) := hD
  have hl := lv_entry ([.ref pg, .int (zI (q)), .int (zI (ov))]) (n := 5) (Nat.le_of_ble_eq_true rfl)
  rw [lg_entry_eq]
  generalize (lg_sl ([.ref pg, .int (zI (q)), .int (zI (ov))]) ++ List.replicate (5 - (lg_sl ([.ref pg, .int (zI (q)), .int (zI (ov))])).length) Slot.unset).toArray = ls at hl ⊢
  have hl : lv_has ls 5 [(0, .ref pg), (1, .int (zI (q))), (2, .int (zI (ov)))] := hl
  obtain ⟨hw, hh, hpts, hcnt, hmost, hrch, hM, hC, hB⟩ := id hp
  have hpt := pgOK_pts hp
  have hcb : ∀ k, 0 ≤ k → k < 8 → 0 ≤ (colP P pts q) k ∧ (colP P pts q) k ≤ 255 := fun k _ _ => hB _
  have hpb := pnF_b (C := C) (ov := ov) (k := cnt) hC hcb
  refine z_iconst hx hb dX3_paintPoint_0 ?_
  refine lv_istore_n (lv' := [(3, .int (zI (0))), (0, .ref pg), (1, .int (zI (q))), (2, .int (zI (ov)))]) hx hb dX3_paintPoint_1 rfl hl (by decide) rfl (fun ls hl => ?_)
  rw [show P = PS P pts q (pnF C ov (colP P pts q) 0) by rw [pnF_0, PS_self]] at hP hD
  refine z_loopH (σ := Int × Array Slot) (fun zq => F0 m 2 (zq.2) []) (fun zq => (0 ≤ zq.1 ∧ zq.1 ≤ cnt) ∧ lv_has (zq.2) 5 [(0, .ref pg), (1, .int (zI (q))), (2, .int (zI (ov))), (3, .int (zI (zq.1)))]) (fun zq => pgL G pg ik mx co pa w h pts cnt most rch M C (PS P pts q (pnF C ov (colP P pts q) zq.1))) (fun zq => (cnt - zq.1).toNat) ?_ (0, ls) ⟨by refine ⟨?_, ?_⟩ <;> omega, lv_sub hl [1, 2, 3, 0] rfl⟩ hP hD hS
  intro zq H locs hq hP hD hS ih
  obtain ⟨k, ls⟩ := zq
  obtain ⟨hI, hl⟩ := hq
  try dsimp only at hI hl ih hP hD ⊢
  have hP : zP G (pgL G pg ik mx co pa w h pts cnt most rch M C (PS P pts q (pnF C ov (colP P pts q) k))) H := hP
  have hD : va_D A (pgL G pg ik mx co pa w h pts cnt most rch M C (PS P pts q (pnF C ov (colP P pts q) k))) := hD
  have ih2 := ih
  refine lv_iload_n hx hb dX3_paintPoint_2 rfl (lv_at hl 3 rfl) ?_
  refine lv_aload_n hx hb dX3_paintPoint_3 rfl (lv_at hl 0 rfl) ?_
  refine gf_X3_14 hx hb hT hown hK hP 0 rfl rfl dX3_paintPoint_4 ?_
  refine gf_X3_47 hx hb hT hown hK hP 1 rfl rfl dX3_paintPoint_7 ?_
  refine z_icmp_ge (tgt := 71) hx hb dX3_paintPoint_10 (by decide) (by omega) (by omega) (fun h10 => ?_) (fun h10 => ?_)
  · skip
    have hk4 : k = cnt := by omega
    rw [hk4] at hP hD
    have hsb : 0 ≤ zsum (pnF C ov (colP P pts q) cnt) cnt.toNat ∧ zsum (pnF C ov (colP P pts q) cnt) cnt.toNat ≤ 2040 := pt_sum hcnt hpb
    refine lv_aload_n hx hb dX3_paintPoint_71 rfl (lv_at hl 0 rfl) ?_
    refine lv_iload_n hx hb dX3_paintPoint_72 rfl (lv_at hl 1 rfl) ?_
    refine z_callV (q0 := 0) (G := G) (As := [.int (zI (q))]) (rest := []) hx hb hml hown hT hK (c_X3_sumAt l G pg ik mx co pa w h pts cnt most rch M C (PS P pts q (pnF C ov (colP P pts q) cnt)) (q) (pgOK_P hp (PS_b (by omega) hB hpb)) (by omega)) kc_X3_53 ⟨Nat.le_of_ble_eq_true rfl, Nat.le_of_ble_eq_true rfl⟩ ⟨rfl, rfl⟩ ⟨Nat.le_of_ble_eq_true rfl, Nat.le_of_ble_eq_true rfl⟩ hP rfl rfl rfl rfl hl.1 rfl (Nat.le_of_ble_eq_true rfl) dX3_paintPoint_73 ?_
    refine z_top ((zsum (pnF C ov (colP P pts q) cnt) cnt.toNat)) (zsum_congr _ (fun k h1 h2 => PS_at _ _ (by omega) hq)) ?_
    refine lv_aload_n hx hb dX3_paintPoint_76 rfl (lv_at hl 0 rfl) ?_
    refine gf_X3_18 hx hb hT hown hK hP 0 rfl rfl dX3_paintPoint_77 ?_
    refine z_isub hx hb dX3_paintPoint_80 ?_
    refine lv_istore_n (lv' := [(3, .int (zI (((zsum (pnF C ov (colP P pts q) cnt) cnt.toNat) - most)))), (0, .ref pg), (1, .int (zI (q))), (2, .int (zI (ov)))]) hx hb dX3_paintPoint_81 rfl hl (by decide) rfl (fun ls hl => ?_)
    refine lv_iload_n hx hb dX3_paintPoint_82 rfl (lv_at hl 0 rfl) ?_
    refine z_if_le (tgt := 97) hx hb dX3_paintPoint_83 (by decide) (by omega) (fun h83 => ?_) (fun h83 => ?_)
    · skip
      have hQ : ptF C ov cnt most (colP P pts q) = (pnF C ov (colP P pts q) cnt) := by unfold ptF; split <;> first | rfl | omega
      exact z_wrv () hx hb hr hlocks hK (by rw [hQ]; exact hP) (by rw [hQ]; exact hD) hS (trivial) dX3_paintPoint_97
    · skip
      refine lv_aload_n hx hb dX3_paintPoint_86 rfl (lv_at hl 1 rfl) ?_
      refine lv_iload_n hx hb dX3_paintPoint_87 rfl (lv_at hl 2 rfl) ?_
      refine lv_iload_n hx hb dX3_paintPoint_88 rfl (lv_at hl 0 rfl) ?_
      refine z_wVv (q0 := 0) (G := G) (X := pgL G pg ik mx co pa w h pts cnt most rch M C (PS P pts q (pnF C ov (colP P pts q) cnt))) (pl := []) (As := [.int (zI (q)), .int (zI (((zsum (pnF C ov (colP P pts q) cnt) cnt.toNat) - most)))]) (rest := []) hx hb hml hown hT hK (c_X3_moveToBlack l G pg ik mx co pa w h pts cnt most rch M C (PS P pts q (pnF C ov (colP P pts q) cnt)) (q) (((zsum (pnF C ov (colP P pts q) cnt) cnt.toNat) - most)) (pgOK_P hp (PS_b (by omega) hB hpb)) (by omega) (by omega)) kc_X3_57 ⟨Nat.le_of_ble_eq_true rfl, Nat.le_of_ble_eq_true rfl⟩ ⟨Nat.le_of_ble_eq_true rfl, Nat.le_of_ble_eq_true rfl⟩ hP hD hS hA [0, 1, 2, 3, 4] [] (wr := []) rfl rfl rfl rfl (by decide) rfl rfl rfl rfl hl.1 rfl (Nat.le_of_ble_eq_true rfl) dX3_paintPoint_89 (fun u9 H locs hok9 hP hD hS => ?_)
      have hP : zP G (pgL G pg ik mx co pa w h pts cnt most rch M C (PS (PS P pts q (pnF C ov (colP P pts q) cnt)) pts q (mvF (colP (PS P pts q (pnF C ov (colP P pts q) cnt)) pts q) ((zsum (pnF C ov (colP P pts q) cnt) cnt.toNat) - most)))) H := hP
      have hD : va_D A (pgL G pg ik mx co pa w h pts cnt most rch M C (PS (PS P pts q (pnF C ov (colP P pts q) cnt)) pts q (mvF (colP (PS P pts q (pnF C ov (colP P pts q) cnt)) pts q) ((zsum (pnF C ov (colP P pts q) cnt) cnt.toNat) - most)))) := hD
      rw [norm_mv hq] at hP hD
      refine lv_aload_n hx hb dX3_paintPoint_92 rfl (lv_at hl 1 rfl) ?_
      refine lv_iload_n hx hb dX3_paintPoint_93 rfl (lv_at hl 2 rfl) ?_
      refine z_wVv (q0 := 0) (G := G) (X := pgL G pg ik mx co pa w h pts cnt most rch M C (PS P pts q (mvF (pnF C ov (colP P pts q) cnt) (zsum (pnF C ov (colP P pts q) cnt) cnt.toNat - most)))) (pl := []) (As := [.int (zI (q))]) (rest := []) hx hb hml hown hT hK (c_X3_shrinkToLimit l G pg ik mx co pa w h pts cnt most rch M C (PS P pts q (mvF (pnF C ov (colP P pts q) cnt) (zsum (pnF C ov (colP P pts q) cnt) cnt.toNat - most))) (q) (pgOK_P hp (PS_b (by omega) hB (mvF_b hpb (by omega)))) (by omega)) kc_X3_61 ⟨Nat.le_of_ble_eq_true rfl, Nat.le_of_ble_eq_true rfl⟩ ⟨Nat.le_of_ble_eq_true rfl, Nat.le_of_ble_eq_true rfl⟩ hP hD hS hA [0, 1, 2, 3, 4] [] (wr := []) rfl rfl rfl rfl (by decide) rfl rfl rfl rfl hl.1 rfl (Nat.le_of_ble_eq_true rfl) dX3_paintPoint_94 (fun u9 H locs hok9 hP hD hS => ?_)
      have hP : zP G (pgL G pg ik mx co pa w h pts cnt most rch M C (PS (PS P pts q (mvF (pnF C ov (colP P pts q) cnt) (zsum (pnF C ov (colP P pts q) cnt) cnt.toNat - most))) pts q (shrF (colP (PS P pts q (mvF (pnF C ov (colP P pts q) cnt) (zsum (pnF C ov (colP P pts q) cnt) cnt.toNat - most))) pts q) cnt most))) H := hP
      have hD : va_D A (pgL G pg ik mx co pa w h pts cnt most rch M C (PS (PS P pts q (mvF (pnF C ov (colP P pts q) cnt) (zsum (pnF C ov (colP P pts q) cnt) cnt.toNat - most))) pts q (shrF (colP (PS P pts q (mvF (pnF C ov (colP P pts q) cnt) (zsum (pnF C ov (colP P pts q) cnt) cnt.toNat - most))) pts q) cnt most))) := hD
      rw [norm_sh (by omega) hq] at hP hD
      have hQ : ptF C ov cnt most (colP P pts q) = (shrF (mvF (pnF C ov (colP P pts q) cnt) (zsum (pnF C ov (colP P pts q) cnt) cnt.toNat - most)) cnt most) := by unfold ptF; split <;> first | rfl | omega
      exact z_wrv () hx hb hr hlocks hK (by rw [hQ]; exact hP) (by rw [hQ]; exact hD) hS (trivial) dX3_paintPoint_97
  · skip
    have hck := hC k
    have hix := pg_ix hpt (k := k) (q := q) (by omega) hq
    refine lv_aload_n hx hb dX3_paintPoint_13 rfl (lv_at hl 0 rfl) ?_
    refine gf_X3_14 hx hb hT hown hK hP 0 rfl rfl dX3_paintPoint_14 ?_
    refine gf_X3_50 hx hb hT hown hK hP 1 rfl rfl dX3_paintPoint_17 ?_
    refine lv_iload_n hx hb dX3_paintPoint_20 rfl (lv_at hl 3 rfl) ?_
    refine z_iald hx hb hK hP 4 rfl (⟨by omega, by omega, by omega⟩) dX3_paintPoint_21 ?_
    refine lv_istore (lv' := [(4, .int (zI ((C k)))), (0, .ref pg), (1, .int (zI (q))), (2, .int (zI (ov))), (3, .int (zI (k)))]) hx hb dX3_paintPoint_22 hl (by decide) rfl (fun ls hl => ?_)
    refine lv_iload hx hb dX3_paintPoint_24 (lv_at hl 0 rfl) ?_
    refine z_if_lt (tgt := 47) hx hb dX3_paintPoint_26 (by decide) (by omega) (fun h26 => ?_) (fun h26 => ?_)
    · skip
      refine lv_iload_n hx hb dX3_paintPoint_47 rfl (lv_at hl 3 rfl) ?_
      refine z_if_ne (tgt := 65) hx hb dX3_paintPoint_48 (by decide) (by omega) (fun h48 => ?_) (fun h48 => ?_)
      · skip
        refine lv_iinc (v := zI (k + (1))) (lv' := [(3, .int (zI (k + (1)))), (4, .int (zI ((C k)))), (0, .ref pg), (1, .int (zI (q))), (2, .int (zI (ov)))]) hx hb dX3_paintPoint_65 hl (k := 4) rfl (zI_add _ _) (by decide) rfl (fun ls hl => ?_)
        refine z_goto (tgt := 2) hx hb dX3_paintPoint_68 (by decide) ?_
        try rw [show pnF C ov (colP P pts q) k = pnF C ov (colP P pts q) (k + 1) from pnF_n _ _ _ (by omega) h26 h48] at hP hD
        exact ih2 (k + 1, ls) _ _ ⟨by refine ⟨?_, ?_⟩ <;> omega, lv_sub hl [2, 3, 4, 0] rfl⟩ (by omega) hP hD hS
      · skip
        refine lv_aload_n hx hb dX3_paintPoint_51 rfl (lv_at hl 1 rfl) ?_
        refine gf_X3_34 hx hb hT hown hK hP 0 rfl rfl dX3_paintPoint_52 ?_
        refine lv_iload_n hx hb dX3_paintPoint_55 rfl (lv_at hl 4 rfl) ?_
        refine lv_aload_n hx hb dX3_paintPoint_56 rfl (lv_at hl 1 rfl) ?_
        refine gf_X3_31 hx hb hT hown hK hP 0 rfl rfl dX3_paintPoint_57 ?_
        refine z_imul hx hb dX3_paintPoint_60 ?_
        refine lv_iload_n hx hb dX3_paintPoint_61 rfl (lv_at hl 2 rfl) ?_
        refine z_iadd hx hb dX3_paintPoint_62 ?_
        refine z_iconst hx hb dX3_paintPoint_63 ?_
        refine z_iast (ws' := pgL G pg ik mx co pa w h pts cnt most rch M C (zu (PS P pts q (pnF C ov (colP P pts q) k)) ((k * pts) + q) 0)) hx hb hK hP hD hS 2 rfl (⟨by omega, by omega, by omega⟩) dX3_paintPoint_64 rfl (fun H locs hP hD hS => ?_)
        rw [show (zu (PS P pts q (pnF C ov (colP P pts q) k)) ((k * pts) + q) 0) = (PS P pts q (pnF C ov (colP P pts q) (k + 1))) from by rw [PS_up _ _ _ (by omega) hq, pnF_s _ _ _ (by omega) (by rw [if_pos h26, if_pos h48])]] at hP hD
        refine lv_iinc (v := zI (k + (1))) (lv' := [(3, .int (zI (k + (1)))), (4, .int (zI ((C k)))), (0, .ref pg), (1, .int (zI (q))), (2, .int (zI (ov)))]) hx hb dX3_paintPoint_65 hl (k := 4) rfl (zI_add _ _) (by decide) rfl (fun ls hl => ?_)
        refine z_goto (tgt := 2) hx hb dX3_paintPoint_68 (by decide) ?_
        try rw [show pnF C ov (colP P pts q) k = pnF C ov (colP P pts q) (k + 1) from pnF_n _ _ _ (by omega) h26 h48] at hP hD
        exact ih2 (k + 1, ls) _ _ ⟨by refine ⟨?_, ?_⟩ <;> omega, lv_sub hl [2, 3, 4, 0] rfl⟩ (by omega) hP hD hS
    · skip
      refine lv_aload_n hx hb dX3_paintPoint_29 rfl (lv_at hl 1 rfl) ?_
      refine gf_X3_34 hx hb hT hown hK hP 0 rfl rfl dX3_paintPoint_30 ?_
      refine lv_iload_n hx hb dX3_paintPoint_33 rfl (lv_at hl 4 rfl) ?_
      refine lv_aload_n hx hb dX3_paintPoint_34 rfl (lv_at hl 1 rfl) ?_
      refine gf_X3_31 hx hb hT hown hK hP 0 rfl rfl dX3_paintPoint_35 ?_
      refine z_imul hx hb dX3_paintPoint_38 ?_
      refine lv_iload_n hx hb dX3_paintPoint_39 rfl (lv_at hl 2 rfl) ?_
      refine z_iadd hx hb dX3_paintPoint_40 ?_
      refine lv_iload hx hb dX3_paintPoint_41 (lv_at hl 0 rfl) ?_
      refine z_iast (ws' := pgL G pg ik mx co pa w h pts cnt most rch M C (zu (PS P pts q (pnF C ov (colP P pts q) k)) ((k * pts) + q) (C k))) hx hb hK hP hD hS 2 rfl (⟨by omega, by omega, by omega⟩) dX3_paintPoint_43 rfl (fun H locs hP hD hS => ?_)
      rw [show (zu (PS P pts q (pnF C ov (colP P pts q) k)) ((k * pts) + q) (C k)) = (PS P pts q (pnF C ov (colP P pts q) (k + 1))) from by rw [PS_up _ _ _ (by omega) hq, pnF_s _ _ _ (by omega) (by rw [if_neg (by omega)])]] at hP hD
      refine z_goto (tgt := 65) hx hb dX3_paintPoint_44 (by decide) ?_
      refine lv_iinc (v := zI (k + (1))) (lv' := [(3, .int (zI (k + (1)))), (4, .int (zI ((C k)))), (0, .ref pg), (1, .int (zI (q))), (2, .int (zI (ov)))]) hx hb dX3_paintPoint_65 hl (k := 4) rfl (zI_add _ _) (by decide) rfl (fun ls hl => ?_)
      refine z_goto (tgt := 2) hx hb dX3_paintPoint_68 (by decide) ?_
      try rw [show pnF C ov (colP P pts q) k = pnF C ov (colP P pts q) (k + 1) from pnF_n _ _ _ (by omega) h26 h48] at hP hD
      exact ih2 (k + 1, ls) _ _ ⟨by refine ⟨?_, ?_⟩ <;> omega, lv_sub hl [2, 3, 4, 0] rfl⟩ (by omega) hP hD hS

set_option maxHeartbeats 4000000 in
set_option maxRecDepth 100000 in
theorem c_X2_addMix (l : Launch) (G : zG) (pg ik mx co pa : Nat) (w h pts cnt most rch : Int) (M C P : Int → Int) (a1 a2 a3 a4 : Int) (hp : pgOK w h pts cnt most rch M C P) (hc8 : cnt < 8) : zWi l yX2_addMix cX2_addMix 6 (some .int) { frames := 0, cells := 0, slots := 0, locals := 0 } G [.ref ik, .int (zI (a1)), .int (zI (a2)), .int (zI (a3)), .int (zI (a4))] (pgL G pg ik mx co pa w h pts cnt most rch M C P) (S := Unit) (fun u => cnt) (fun u => True) (fun u => pgL G pg ik mx co pa w h pts (cnt + 1) most rch (zu (zu (zu (zu M (cnt * 4) a1) (cnt * 4 + 1) a2) (cnt * 4 + 2) a3) (cnt * 4 + 3) a4) C P) := by
  intro sz
  refine Met.ofW (cc := cX2_addMix) (maxL := 6) (ret := (some .int)) (by decide) rfl ?_
  intro p e s m args below meth c s₁ B hml hv
  obtain ⟨rfl, hsz, hP, hK, hD0⟩ := hv
  have hx := B.exec
  have hb := B.bytes
  have hr := B.returns
  have hT : ∀ w ∈ TB, w.before _ s = true := fun w h => atoms_spec (ws := Cond.code yX2_addMix cX2_addMix 6 (some .int) :: TB) B.pre w (List.mem_cons_of_mem _ h)
  have hown : s.vm.findClass RX2 = some m.cls := findClass_of_methodNamed B.named
  have hlocks := B.notSynchronized
  subst hsz
  have hD := hD0.self (sz := s.heap.size)
  generalize hAe : va_A (pgL G pg ik mx co pa w h pts cnt most rch M C P) s.heap.size = A at hD ⊢
  have hA : ∀ q : Nat, s.heap.size ≤ q → A q := fun q h => by rw [← hAe]; exact Or.inr h
  have hS : va_S A s.heap s.heap [] := va_S.rf
  have hP : zP G (pgL G pg ik mx co pa w h pts cnt most rch M C P) s.heap := hP
  have hD : va_D A (pgL G pg ik mx co pa w h pts cnt most rch M C P) := hD
  have hl := lv_entry ([.ref ik, .int (zI (a1)), .int (zI (a2)), .int (zI (a3)), .int (zI (a4))]) (n := 6) (Nat.le_of_ble_eq_true rfl)
  rw [lg_entry_eq]
  generalize (lg_sl ([.ref ik, .int (zI (a1)), .int (zI (a2)), .int (zI (a3)), .int (zI (a4))]) ++ List.replicate (6 - (lg_sl ([.ref ik, .int (zI (a1)), .int (zI (a2)), .int (zI (a3)), .int (zI (a4))])).length) Slot.unset).toArray = ls at hl ⊢
  have hl : lv_has ls 6 [(0, .ref ik), (1, .int (zI (a1))), (2, .int (zI (a2))), (3, .int (zI (a3))), (4, .int (zI (a4)))] := hl
  obtain ⟨hw, hh, hpts, hcnt, hmost, hrch, hM, hC, hB⟩ := id hp
  have hpt := pgOK_pts hp
  refine lv_aload_n hx hb dX2_addMix_0 rfl (lv_at hl 0 rfl) ?_
  refine gf_X2_18 hx hb hT hown hK hP 1 rfl rfl dX2_addMix_1 ?_
  refine z_iconst hx hb dX2_addMix_4 ?_
  refine z_imul hx hb dX2_addMix_5 ?_
  refine lv_istore (lv' := [(5, .int (zI ((cnt * 4)))), (0, .ref ik), (1, .int (zI (a1))), (2, .int (zI (a2))), (3, .int (zI (a3))), (4, .int (zI (a4)))]) hx hb dX2_addMix_6 hl (by decide) rfl (fun ls hl => ?_)
  refine lv_aload_n hx hb dX2_addMix_8 rfl (lv_at hl 1 rfl) ?_
  refine gf_X2_11 hx hb hT hown hK hP 1 rfl rfl dX2_addMix_9 ?_
  refine lv_iload hx hb dX2_addMix_12 (lv_at hl 0 rfl) ?_
  refine lv_iload_n hx hb dX2_addMix_14 rfl (lv_at hl 2 rfl) ?_
  refine z_iast (ws' := pgL G pg ik mx co pa w h pts cnt most rch (zu M (cnt * 4) a1) C P) hx hb hK hP hD hS 3 rfl (⟨by omega, by omega, by omega⟩) dX2_addMix_15 rfl (fun H locs hP hD hS => ?_)
  refine lv_aload_n hx hb dX2_addMix_16 rfl (lv_at hl 1 rfl) ?_
  refine gf_X2_11 hx hb hT hown hK hP 1 rfl rfl dX2_addMix_17 ?_
  refine lv_iload hx hb dX2_addMix_20 (lv_at hl 0 rfl) ?_
  refine z_iconst hx hb dX2_addMix_22 ?_
  refine z_iadd hx hb dX2_addMix_23 ?_
  refine lv_iload_n hx hb dX2_addMix_24 rfl (lv_at hl 3 rfl) ?_
  refine z_iast (ws' := pgL G pg ik mx co pa w h pts cnt most rch (zu (zu M (cnt * 4) a1) ((cnt * 4) + 1) a2) C P) hx hb hK hP hD hS 3 rfl (⟨by omega, by omega, by omega⟩) dX2_addMix_25 rfl (fun H locs hP hD hS => ?_)
  refine lv_aload_n hx hb dX2_addMix_26 rfl (lv_at hl 1 rfl) ?_
  refine gf_X2_11 hx hb hT hown hK hP 1 rfl rfl dX2_addMix_27 ?_
  refine lv_iload hx hb dX2_addMix_30 (lv_at hl 0 rfl) ?_
  refine z_iconst hx hb dX2_addMix_32 ?_
  refine z_iadd hx hb dX2_addMix_33 ?_
  refine lv_iload_n hx hb dX2_addMix_34 rfl (lv_at hl 4 rfl) ?_
  refine z_iast (ws' := pgL G pg ik mx co pa w h pts cnt most rch (zu (zu (zu M (cnt * 4) a1) ((cnt * 4) + 1) a2) ((cnt * 4) + 2) a3) C P) hx hb hK hP hD hS 3 rfl (⟨by omega, by omega, by omega⟩) dX2_addMix_35 rfl (fun H locs hP hD hS => ?_)
  refine lv_aload_n hx hb dX2_addMix_36 rfl (lv_at hl 1 rfl) ?_
  refine gf_X2_11 hx hb hT hown hK hP 1 rfl rfl dX2_addMix_37 ?_
  refine lv_iload hx hb dX2_addMix_40 (lv_at hl 0 rfl) ?_
  refine z_iconst hx hb dX2_addMix_42 ?_
  refine z_iadd hx hb dX2_addMix_43 ?_
  refine lv_iload hx hb dX2_addMix_44 (lv_at hl 5 rfl) ?_
  refine z_iast (ws' := pgL G pg ik mx co pa w h pts cnt most rch (zu (zu (zu (zu M (cnt * 4) a1) ((cnt * 4) + 1) a2) ((cnt * 4) + 2) a3) ((cnt * 4) + 3) a4) C P) hx hb hK hP hD hS 3 rfl (⟨by omega, by omega, by omega⟩) dX2_addMix_46 rfl (fun H locs hP hD hS => ?_)
  refine lv_aload_n hx hb dX2_addMix_47 rfl (lv_at hl 1 rfl) ?_
  refine lv_dup hx hb dX2_addMix_48 rfl ?_
  refine gf_X2_18 hx hb hT hown hK hP 1 rfl rfl dX2_addMix_49 ?_
  refine z_iconst hx hb dX2_addMix_52 ?_
  refine z_iadd hx hb dX2_addMix_53 ?_
  refine pf_X2_18 (ws' := pgL G pg ik mx co pa w h pts (cnt + 1) most rch (zu (zu (zu (zu M (cnt * 4) a1) ((cnt * 4) + 1) a2) ((cnt * 4) + 2) a3) ((cnt * 4) + 3) a4) C P) hx hb hT hown hK hP hD hS 1 rfl (Nat.le_of_ble_eq_true rfl) rfl rfl rfl dX2_addMix_54 (fun H locs hP hD hS => ?_)
  refine lv_aload_n hx hb dX2_addMix_57 rfl (lv_at hl 1 rfl) ?_
  refine gf_X2_18 hx hb hT hown hK hP 1 rfl rfl dX2_addMix_58 ?_
  refine z_iconst hx hb dX2_addMix_61 ?_
  refine z_isub hx hb dX2_addMix_62 ?_
  exact z_wri () hx hb hr hlocks hK hP hD hS (trivial) (by omega) dX2_addMix_63
