/-! ===== the law's loop and its beginning ===== -/
section ZW2
variable {p : Program} {l : Launch} {e : Env} {R : Room} {s : State} {m : MethodId} {args : Array Value} {below : List Frame} {meth : Method} {c : Code} {H : Heap} {locs : List Loc} {cells slots : Nat} {Q : State → Prop} {cc : ByteArray} {pc nL : Nat} {ls : Array Slot} {rest st0 : List Value} {A A0 : Nat → Prop} {H0 : Heap} {G : zG} {X wc wr pl ws : va_W}
theorem z_wIO {y : MethodName} {bytes : ByteArray} {maxL index n b : Nat} {own : String} {rm : Room} {As : List Value} {S : Type} {ok : S → Prop} {ws2 : S → va_W} (hx : p.tables.exec = Jvm.exec) (hb : c.code = cc) (hml : c.maxLocals = nL) (hown : s.vm.findClass own = some m.cls) (hT : ∀ w ∈ TB, w.before args s = true) (hK : zK G s) (hAO : va_AO "SeparateScreens$Cell" s)
    (hM : zWvO l y bytes maxL rm G (.ref b :: As) wc ok ws2) (kc : kcI own index y bytes maxL n) (hR : rm.frames + 1 ≤ R.frames ∧ 8 + (maxL + 11) + rm.locals ≤ R.locals) (hcell : cells + rm.cells ≤ R.cells ∧ slots + rm.slots ≤ R.slots) (hP : zP G (X ++ pl) H) (hD : va_D A0 (X ++ pl)) (hS : va_S A0 H0 H locs) (hA : ∀ q, H0.size ≤ q → A0 q) (isC isR : List Nat) (hC : isC.map (fun i => X[i]?) = wc.map some) (hRr : isR.map (fun i => X[i]?) = wr.map some) (hnC : va_nd isC = true) (hnR : va_nd isR = true) (hdis : ∀ i ∈ isR, i ∉ isC) (hn : As.length = n) (hls : ls.size = nL) (hst : st0 = As.reverse ++ .ref b :: rest) (hrest : (rest.map fun v => v.category).sum ≤ 8) (hd : decode cc pc = .ok (.invokespecial index, 3))
    (k : ∀ (u : S) (H : Heap) (locs : List Loc), ok u → zP G ((wr ++ ws2 u) ++ pl) H → va_D A0 ((wr ++ ws2 u) ++ pl) → va_S A0 H0 H locs → W p l e R s m args below meth c H locs (cells + rm.cells) (slots + rm.slots) Q (F0 m (pc + 3) ls rest)) : W p l e R s m args below meth c H locs cells slots Q (F0 m pc ls st0) := by
  obtain ⟨k1, k2, k3, k5, k6, k7, k8, k9⟩ := kc
  have hDx := zD_left hD
  have hPc : zP G wc H := (zP_left hP).sub isC (fm_map (wc := wc) isC wc hC)
  have hDc := hDx.sub isC hnC hC
  have hFc := va_free hDx hS hA isC hC
  refine va_callv (va_runI (As := As) (rest := rest) (g := F0 m pc ls st0) ⟨hx, hb, hml, hown, hT⟩ (hM H.size) ⟨callB_of n hT (TB_self k1) rfl rfl rfl (hT _ k5) (hT _ k2) ⟨k7, k8, k9⟩ hR, k6, hT _ k3⟩ ⟨zPwO_blind G _ _ _, fun U hU hW => ⟨rfl, by rw [hU], by rw [hU]; exact hPc, va_K.moved hW.alike hK, hDc.weaken (fun _ _ _ _ => trivial), va_AO.moved hW.alike hAO⟩⟩ rfl hn hls hst (lv_room hrest) hd hcell) hS (fun q _ h => hFc q h) hFc (fun u t H1 locs1 ht hvm hw hB hz1 hk1 hS1 => ?_)
  obtain ⟨hP1, hK1, hD1⟩ := hB
  rw [ht] at hP1
  obtain ⟨hP2, hD2⟩ := va_joinQ hP hD isC isR hC hRr hnR hdis hk1 hFc hP1 hD1
  exact k u H1 locs1 hw hP2 hD2 hS1
theorem z_newl (hx : p.tables.exec = Jvm.exec) (hb : c.code = cc) (hT : ∀ w ∈ TB, w.before args s = true) (hK : zK G s) (hP : zP G ws H) (hD : va_D A ws) (hS : va_S A H0 H locs) (hA : ∀ q, H0.size ≤ q → A q) (hcells : cells + 1 ≤ R.cells) (hslots : slots + 1 ≤ R.slots) (hd : decode cc pc = .ok (.newarray .long, 2))
    (k : ∀ (q : Nat) (H : Heap), zP G (ws ++ [ol G q 0]) H → va_D A (ws ++ [ol G q 0]) → va_S A H0 H locs → W p l e R s m args below meth c H locs (cells + 1) (slots + 1) Q (F0 m (pc + 2) ls (.ref q :: rest))) : W p l e R s m args below meth c H locs cells slots Q (F0 m pc ls (.int (zI 1) :: rest)) := by
  have hby : 1 * componentBytes .long ≤ 536870912 := by decide
  have hz : (zLA 0) = fun _ => (0 : Int64) := by
    funext j; unfold zLA; split <;> rfl
  refine va_newa (atype := .long) (N' := 1) (n := zI 1) hx hb (hT _ (mT 763 (by decide +kernel) rfl)) (ty := .long) rfl hK hP hD hS hA (a0 := (1, .inr (.inl (zLA 0)))) (fun cA => by rw [hz]; rfl) (by rw [← zI_0, zI_lt (by omega) (by omega)]; omega) (by rw [zI_cl (by omega)]; rfl) hby hcells hslots hd (fun q cA H1 hK1 hP1 hD1 hS1 => ?_)
  have h1 : s.vm.findClass ("[" ++ FieldType.long.toString) = some cA := (hK1.2 3 (cA, .long) rfl).2
  have h2 : s.vm.findClass ("[" ++ FieldType.long.toString) = some G.2.2.2 := (hK.2 2 (G.2.2.2, .long) rfl).2
  have e : cA = G.2.2.2 := Option.some.inj (h1.symm.trans h2)
  subst e
  exact k q H1 hP1 hD1 hS1
end ZW2

section LP
variable {p : Program} {l : Launch} {e : Env} {R : Room} {s : State} {m : MethodId} {args : Array Value} {below : List Frame} {meth : Method} {c : Code} {H : Heap} {locs : List Loc} {cells slots : Nat} {Q : State → Prop} {ls : Array Slot} {G : zG} {A : Nat → Prop} {b Ls : Nat} {xs : Nat → Int32} {oa xx pg ik mx co pa cv ca cb ar md ma mb mc mt m1 m2 m3 m4 m5 m6 m7 : Nat} {i w h ov th cnt most rch cc tl : Int} {M C L V Y T CA CB CN CG CS Z K : Int → Int} {cs : List cT}
set_option maxHeartbeats 4000000 in
set_option maxRecDepth 100000 in
theorem law_step (hc : lawC p l R s m args c G A b Ls xs) (hi : 2 ≤ i ∧ i + 6 ≤ (Ls : Int)) (hI : lInv w h cnt most rch M C cc L V cs tl Y T CN CG CS K) (hl : lv_has ls 8 [(0, .ref b), (1, .ref xx), (2, .ref md), (3, .ref oa), (4, .int (zI i))]) (hP : zP G (lawW G oa xx pg ik mx co pa cv ca cb ar md ma mb mc mt m1 m2 m3 m4 m5 m6 m7 w h ov th cnt most rch cc tl M C L V Y T CA CB CN CG CS Z K cs) H) (hD : va_D A (lawW G oa xx pg ik mx co pa cv ca cb ar md ma mb mc mt m1 m2 m3 m4 m5 m6 m7 w h ov th cnt most rch cc tl M C L V Y T CA CB CN CG CS Z K cs)) (hS : va_S A s.heap H locs) (hcl : cells + 8 ≤ R.cells ∧ slots + 1000 ≤ R.slots) (hn : lawN p l e R s m args below meth c (cells + 8) (slots + 1000) Q G A b oa xx pg ik mx co pa cv ca cb ar md ma mb mc mt m1 m2 m3 m4 m5 m6 m7 i w h) : W p l e R s m args below meth c H locs cells slots Q (F0 m 53 ls []) := by
  obtain ⟨hx, hb, hml, hown, hT, hK, hXz, hN, hX, hbl, hst, hRf, hRl, hA, hbA, hLs⟩ := id hc
  refine lv_aload_n hx hb dL_law_53 rfl (lv_at hl 0 rfl) ?_
  refine lv_iload hx hb dL_law_54 (lv_at hl 4 rfl) ?_
  refine z_sld hx hb hX hbl hbA hS ⟨by omega, by omega, by omega⟩ dL_law_56 ?_
  refine z_bipush hx hb dL_law_57 (by decide +kernel) ?_
  refine lv_iand hx hb dL_law_59 ?_
  generalize zI (scF xs i) &&& zI 15 = z
  by_cases h1 : z.toInt < 0 ∨ 14 < z.toInt
  · refine lv_tableOut (tgt := 1231) hx hb dL_law_60 h1 (by decide) ?_
    exact W.widen (k := cells + 8) (n := slots + 1000) (by omega) (by omega) (hn ov th cnt most rch cc tl M C L V Y T CA CB CN CG CS Z K cs H locs ls hI hl hP hD hS)
  · have h2 : ¬ z.toInt < 0 := fun q => h1 (Or.inl q)
    have h3 : ¬ 14 < z.toInt := fun q => h1 (Or.inr q)
    have hz : z.toInt = 0 ∨ z.toInt = 1 ∨ z.toInt = 2 ∨ z.toInt = 3 ∨ z.toInt = 4 ∨ z.toInt = 5 ∨ z.toInt = 6 ∨ z.toInt = 7 ∨ z.toInt = 8 ∨ z.toInt = 9 ∨ z.toInt = 10 ∨ z.toInt = 11 ∨ z.toInt = 12 ∨ z.toInt = 13 ∨ z.toInt = 14 := by omega
    rcases hz with hz | hz | hz | hz | hz | hz | hz | hz | hz | hz | hz | hz | hz | hz | hz
    · exact lv_tableIn (off := 76) (tgt := 136) hx hb dL_law_60 h2 h3 (by rw [hz]; rfl) (by decide) (law_ink hc hi hI hl hP hD hS hcl hn)
    · exact lv_tableIn (off := 168) (tgt := 228) hx hb dL_law_60 h2 h3 (by rw [hz]; rfl) (by decide) (law_colour hc hi hI hl hP hD hS hcl hn)
    · exact lv_tableIn (off := 216) (tgt := 276) hx hb dL_law_60 h2 h3 (by rw [hz]; rfl) (by decide) (law_paint hc hi hI hl hP hD hS hcl hn)
    · exact lv_tableIn (off := 305) (tgt := 365) hx hb dL_law_60 h2 h3 (by rw [hz]; rfl) (by decide) (law_limit hc hi hI hl hP hD hS hcl hn)
    · exact lv_tableIn (off := 361) (tgt := 421) hx hb dL_law_60 h2 h3 (by rw [hz]; rfl) (by decide) (law_plate hc hi hI hl hP hD hS hcl hn)
    · exact lv_tableIn (off := 453) (tgt := 513) hx hb dL_law_60 h2 h3 (by rw [hz]; rfl) (by decide) (law_seen hc hi hI hl hP hD hS hcl hn)
    · exact lv_tableIn (off := 561) (tgt := 621) hx hb dL_law_60 h2 h3 (by rw [hz]; rfl) (by decide) (law_lender hc hi hI hl hP hD hS hcl hn)
    · exact lv_tableIn (off := 629) (tgt := 689) hx hb dL_law_60 h2 h3 (by rw [hz]; rfl) (by decide) (law_width hc hi hI hl hP hD hS hcl hn)
    · exact lv_tableIn (off := 685) (tgt := 745) hx hb dL_law_60 h2 h3 (by rw [hz]; rfl) (by decide) (law_gain hc hi hI hl hP hD hS hcl hn)
    · exact lv_tableIn (off := 733) (tgt := 793) hx hb dL_law_60 h2 h3 (by rw [hz]; rfl) (by decide) (law_cell hc hi hI hl hP hD hS hcl hn)
    · exact lv_tableIn (off := 801) (tgt := 861) hx hb dL_law_60 h2 h3 (by rw [hz]; rfl) (by decide) (law_rank hc hi hI hl hP hD hS hcl hn)
    · exact lv_tableIn (off := 869) (tgt := 929) hx hb dL_law_60 h2 h3 (by rw [hz]; rfl) (by decide) (law_same hc hi hI hl hP hD hS hcl hn)
    · exact lv_tableIn (off := 949) (tgt := 1009) hx hb dL_law_60 h2 h3 (by rw [hz]; rfl) (by decide) (law_prints hc hi hI hl hP hD hS hcl hn)
    · exact lv_tableIn (off := 1048) (tgt := 1108) hx hb dL_law_60 h2 h3 (by rw [hz]; rfl) (by decide) (law_covered hc hi hI hl hP hD hS hcl hn)
    · exact lv_tableIn (off := 1103) (tgt := 1163) hx hb dL_law_60 h2 h3 (by rw [hz]; rfl) (by decide) (law_packed hc hi hI hl hP hD hS hcl hn)

theorem law_head (hc : lawC p l R s m args c G A b Ls xs) (hi : 2 ≤ i ∧ i ≤ (Ls : Int) + 6) (hl : lv_has ls 8 [(0, .ref b), (1, .ref xx), (2, .ref md), (3, .ref oa), (4, .int (zI i))]) (hS : va_S A s.heap H locs) (kx : (Ls : Int) - 6 < i → W p l e R s m args below meth c H locs cells slots Q (F0 m 1237 ls [])) (kg : i + 6 ≤ (Ls : Int) → W p l e R s m args below meth c H locs cells slots Q (F0 m 53 ls [])) : W p l e R s m args below meth c H locs cells slots Q (F0 m 43 ls []) := by
  obtain ⟨hx, hb, hml, hown, hT, hK, hXz, hN, hX, hbl, hst, hRf, hRl, hA, hbA, hLs⟩ := id hc
  refine lv_iload hx hb dL_law_43 (lv_at hl 4 rfl) ?_
  refine lv_aload_n hx hb dL_law_45 rfl (lv_at hl 0 rfl) ?_
  refine z_slen hx hb hX hbl hbA hS dL_law_46 ?_
  refine z_bipush hx hb dL_law_47 (by decide +kernel) ?_
  refine z_isub hx hb dL_law_49 ?_
  exact z_icmp_gt (tgt := 1237) hx hb dL_law_50 (by decide) (by omega) (by omega) (fun h9 => kx (by omega)) (fun h9 => kg (by omega))
set_option maxHeartbeats 4000000 in
set_option maxRecDepth 100000 in
theorem law_loop {cE sE : Nat} (hc : lawC p l R s m args c G A b Ls xs) (hRR : cE ≤ R.cells ∧ sE ≤ R.slots) (hend : ∀ (H : Heap) (locs : List Loc) (ls : Array Slot), va_S A s.heap H locs → W p l e R s m args below meth c H locs cE sE Q (F0 m 1237 ls [])) : ∀ (n : Nat) (i : Int) (cells slots : Nat) (ov th cnt most rch cc tl : Int) (M C L V Y T CA CB CN CG CS Z K : Int → Int) (cs : List cT) (H : Heap) (locs : List Loc) (ls : Array Slot), (2 ≤ i ∧ i ≤ (Ls : Int) + 6) → (Ls : Int) < i + 6 * ((n : Nat) : Int) + 6 → cells + 8 * n ≤ cE → slots + 1000 * n ≤ sE → lInv w h cnt most rch M C cc L V cs tl Y T CN CG CS K → lv_has ls 8 [(0, .ref b), (1, .ref xx), (2, .ref md), (3, .ref oa), (4, .int (zI i))] → zP G (lawW G oa xx pg ik mx co pa cv ca cb ar md ma mb mc mt m1 m2 m3 m4 m5 m6 m7 w h ov th cnt most rch cc tl M C L V Y T CA CB CN CG CS Z K cs) H → va_D A (lawW G oa xx pg ik mx co pa cv ca cb ar md ma mb mc mt m1 m2 m3 m4 m5 m6 m7 w h ov th cnt most rch cc tl M C L V Y T CA CB CN CG CS Z K cs) → va_S A s.heap H locs → W p l e R s m args below meth c H locs cells slots Q (F0 m 43 ls []) := by
  intro n
  induction n with
  | zero =>
    intro i cells slots ov th cnt most rch cc tl M C L V Y T CA CB CN CG CS Z K cs H locs ls hi hm h1 h2 hI hl hP hD hS
    exact law_head hc hi hl hS (fun _ => W.widen (k := cE) (n := sE) (by omega) (by omega) (hend H locs ls hS)) (fun h9 => absurd h9 (by omega))
  | succ n ih =>
    intro i cells slots ov th cnt most rch cc tl M C L V Y T CA CB CN CG CS Z K cs H locs ls hi hm h1 h2 hI hl hP hD hS
    refine law_head hc hi hl hS (fun _ => W.widen (k := cE) (n := sE) (by omega) (by omega) (hend H locs ls hS)) (fun h9 => ?_)
    refine law_step hc ⟨hi.1, h9⟩ hI hl hP hD hS ⟨by omega, by omega⟩ ?_
    intro ov th cnt most rch cc tl M C L V Y T CA CB CN CG CS Z K cs H locs ls hI hl hP hD hS
    obtain ⟨hx, hb, hml, hown, hT, hK, hXz, hN, hX, hbl, hst, hRf, hRl, hA, hbA, hLs⟩ := id hc
    refine lv_iinc (v := zI (i + (6))) (lv' := [(4, .int (zI (i + (6)))), (0, .ref b), (1, .ref xx), (2, .ref md), (3, .ref oa)]) hx hb dL_law_1231 hl (k := 4) rfl (zI_add _ _) (by decide) rfl (fun ls hl => ?_)
    refine z_goto (tgt := 43) hx hb dL_law_1234 (by decide) ?_
    exact ih (i + 6) (cells + 8) (slots + 1000) ov th cnt most rch cc tl M C L V Y T CA CB CN CG CS Z K cs H locs ls ⟨by omega, by omega⟩ (by push_cast at hm; omega) (by omega) (by omega) hI (lv_sub hl [1, 2, 3, 4, 0] rfl) hP hD hS
end LP
theorem lInv0 {x1 x2 : Int} : lInv (max 1 (min 16 x1)) (max 1 (min 12 x2)) 4 2040 1 (mix0 4) (seg0 0 (-1) 8) 2 (zu (fun _ => 0) 1 255) (zu (fun _ => 0) 1 255) [] 2 (fun _ => 0) (zu (seg0 1 (-1) 255) 255 255) (fun _ => 0) (fun _ => 0) (fun _ => 0) (fun _ => 0) := by
  refine ⟨⟨by omega, by omega, by omega, by omega, by omega, fun j => ?_, fun j => (by show (0 : Int) ≤ 0 ∧ (0 : Int) ≤ 255; omega), fun j => ?_, fun j => ?_, ?_, ?_, by omega, ?_, fun c h1 h2 => ?_, fun j => (by show (0 : Int) ≤ 0 ∧ (0 : Int) ≤ 1000; omega)⟩, fun q k _ _ => rfl, cv0.1, cv0.2, fun k c h => ?_, fun c => (by show (-1 : Int) ≤ 0 ∧ (0 : Int) ≤ 300; omega), fun k c h => ?_⟩
  · unfold mix0; split <;> omega
  · unfold seg0; split <;> omega
  · unfold zu seg0; (repeat' split) <;> omega
  · unfold zu seg0; rw [if_neg (by omega), if_neg (by omega)]; omega
  · rw [zu_s]; omega
  · show 0 ≤ (((([] : List cT).length) : Nat) : Int) ∧ (((([] : List cT).length) : Nat) : Int) ≤ 6
    exact ⟨by decide, by decide⟩
  · exfalso
    have e : (((([] : List cT).length) : Nat) : Int) = 0 := rfl
    rw [e] at h2; omega
  · cases h
  · cases h
set_option maxHeartbeats 4000000 in
set_option maxRecDepth 100000 in
theorem law_start {p : Program} {l : Launch} {e : Env} {R : Room} {s : State} {m : MethodId} {args : Array Value} {below : List Frame} {meth : Method} {c : Code} {Q : State → Prop} {ls : Array Slot} {G : zG} {A : Nat → Prop} {b Ls : Nat} {xs : Nat → Int32} {cE sE : Nat} (hc : lawC p l R s m args c G A b Ls xs) (hAO : va_AO "SeparateScreens$Cell" s) (hcE : cE ≤ R.cells) (hsE : sE ≤ R.slots) (hE : 5000 ≤ cE ∧ 600000 ≤ sE) (hend : ∀ (H : Heap) (locs : List Loc) (ls : Array Slot), va_S A s.heap H locs → W p l e R s m args below meth c H locs cE sE Q (F0 m 1237 ls [])) (hl : lv_has ls 8 [(0, .ref b)]) : W p l e R s m args below meth c s.heap [] 0 0 Q (F0 m 0 ls []) := by
  obtain ⟨hx, hb, hml, hown, hT, hK, hXz, hN, hX, hbl, hst, hRf, hRl, hA, hbA, hLs⟩ := id hc
  have hS : va_S A s.heap s.heap [] := va_S.rf
  have hP : zP G [] s.heap := fun k q h => nomatch h
  have hD : va_D A [] := ⟨fun i j p q h => (nomatch h), fun k q h => (nomatch h)⟩
  refine va_new (D := G.1) (ci := 5) (fs := [.null, .null, .null, .int (zI (0))]) (C := RX4) (T := TX4) (N := 4) hx hb hT inT_X4 tyX4 tyX4_ok hown (hT _ (mT 44 (by decide +kernel) rfl)) (hT _ (mT 45 (by decide +kernel) rfl)) (hT _ (mT 29 (by decide +kernel) rfl)) hK hP hD hS hA rfl (fun j hj => by rcases (show j = 0 ∨ j = 1 ∨ j = 2 ∨ j = 3 by omega) with rfl | rfl | rfl | rfl <;> rfl) (by (try dsimp only); omega) (by (try dsimp only); omega) dL_law_0 (fun xx H hP hD hS => ?_)
  have hP : zP G ([(xx, .inr (5, [.null, .null, .null, .int (zI (0))]))]) H := hP
  have hD : va_D A ([(xx, .inr (5, [.null, .null, .null, .int (zI (0))]))]) := hD
  refine lv_dup hx hb dL_law_3 rfl ?_
  refine lv_aload_n hx hb dL_law_4 rfl (lv_at hl 0 rfl) ?_
  refine z_iconst hx hb dL_law_5 ?_
  refine z_call1 (As := [.ref b, .int (zI 0)]) (rest := [.ref xx, .ref xx]) hx hb hml hown hT (c_L_cell l b Ls xs hLs 0 (by omega)) kc_L_67 (by (try dsimp only); omega) ⟨rfl, rfl⟩ (by (try dsimp only); omega) (hX.kept (hS.2.1 b hbl hbA)) rfl hl.1 rfl (Nat.le_of_ble_eq_true rfl) dL_law_6 ?_
  refine lv_aload_n hx hb dL_law_9 rfl (lv_at hl 0 rfl) ?_
  refine z_iconst hx hb dL_law_10 ?_
  refine z_call1 (As := [.ref b, .int (zI 1)]) (rest := [.int (zI (scV Ls xs 0)), .ref xx, .ref xx]) hx hb hml hown hT (c_L_cell l b Ls xs hLs 1 (by omega)) kc_L_67 (by (try dsimp only); omega) ⟨rfl, rfl⟩ (by (try dsimp only); omega) (hX.kept (hS.2.1 b hbl hbA)) rfl hl.1 rfl (Nat.le_of_ble_eq_true rfl) dL_law_11 ?_
  refine z_wIO (G := G) (X := [(xx, .inr (5, [.null, .null, .null, .int (zI (0))]))]) (wc := [(xx, .inr (5, [.null, .null, .null, .int (zI (0))]))]) (wr := []) (pl := []) (As := [.int (zI (scV Ls xs 0)), .int (zI (scV Ls xs 1))]) (rest := [.ref xx]) hx hb hml hown hT hK hAO (c_X4_init l G xx (scV Ls xs 0) (scV Ls xs 1) (scV_r _ _ _) (scV_r _ _ _)) kc_L_72 (by (try dsimp only); omega) (by (try dsimp only); omega) hP hD hS hA [0] [] rfl rfl rfl rfl (by decide) rfl hl.1 rfl (Nat.le_of_ble_eq_true rfl) dL_law_14 (fun u9 H locs hok9 hP hD hS => ?_)
  obtain ⟨pg, ik, mx, co, pa, cv, ca, cb, ar⟩ := u9
  have hP : zP G (xL G xx pg ik mx co pa cv ca cb ar 0 (max 1 (min 16 (scV Ls xs 0))) (max 1 (min 12 (scV Ls xs 1))) ((max 1 (min 16 (scV Ls xs 0))) * (max 1 (min 12 (scV Ls xs 1)))) 4 2040 1 (mix0 4) (seg0 0 (-1) 8) (fun _ => 0) 2 (zu (fun _ => 0) 1 255) (zu (fun _ => 0) 1 255) (fun _ => none)) H := by have := hP; rw [List.append_nil] at this; exact this
  have hD : va_D A (xL G xx pg ik mx co pa cv ca cb ar 0 (max 1 (min 16 (scV Ls xs 0))) (max 1 (min 12 (scV Ls xs 1))) ((max 1 (min 16 (scV Ls xs 0))) * (max 1 (min 12 (scV Ls xs 1)))) 4 2040 1 (mix0 4) (seg0 0 (-1) 8) (fun _ => 0) 2 (zu (fun _ => 0) 1 255) (zu (fun _ => 0) 1 255) (fun _ => none)) := by have := hD; rw [List.append_nil] at this; exact this
  refine lv_astore_n (lv' := [(1, .ref xx), (0, .ref b)]) hx hb dL_law_17 rfl hl (by decide) rfl (fun ls hl => ?_)
  refine va_new (D := G.1) (ci := 6) (fs := [.int (zI (0)), .int (zI (0)), .int (zI (0)), .int (zI (0)), .null, .null, .null, .int (zI (0)), .int (zI (0)), .null, .int (zI (0)), .int (zI (0)), .null, .null, .null, .null, .null, .null, .null]) (C := RX5) (T := TX5) (N := 19) hx hb hT inT_X5 tyX5 tyX5_ok hown (hT _ (mT 548 (by decide +kernel) rfl)) (hT _ (mT 549 (by decide +kernel) rfl)) (hT _ (mT 34 (by decide +kernel) rfl)) hK hP hD hS hA rfl (fun j hj => by rcases (show j = 0 ∨ j = 1 ∨ j = 2 ∨ j = 3 ∨ j = 4 ∨ j = 5 ∨ j = 6 ∨ j = 7 ∨ j = 8 ∨ j = 9 ∨ j = 10 ∨ j = 11 ∨ j = 12 ∨ j = 13 ∨ j = 14 ∨ j = 15 ∨ j = 16 ∨ j = 17 ∨ j = 18 by omega) with rfl | rfl | rfl | rfl | rfl | rfl | rfl | rfl | rfl | rfl | rfl | rfl | rfl | rfl | rfl | rfl | rfl | rfl | rfl <;> rfl) (by (try dsimp only); omega) (by (try dsimp only); omega) dL_law_18 (fun md H hP hD hS => ?_)
  have hP : zP G (xL G xx pg ik mx co pa cv ca cb ar 0 (max 1 (min 16 (scV Ls xs 0))) (max 1 (min 12 (scV Ls xs 1))) ((max 1 (min 16 (scV Ls xs 0))) * (max 1 (min 12 (scV Ls xs 1)))) 4 2040 1 (mix0 4) (seg0 0 (-1) 8) (fun _ => 0) 2 (zu (fun _ => 0) 1 255) (zu (fun _ => 0) 1 255) (fun _ => none) ++ [(md, .inr (6, [.int (zI (0)), .int (zI (0)), .int (zI (0)), .int (zI (0)), .null, .null, .null, .int (zI (0)), .int (zI (0)), .null, .int (zI (0)), .int (zI (0)), .null, .null, .null, .null, .null, .null, .null]))]) H := hP
  have hD : va_D A (xL G xx pg ik mx co pa cv ca cb ar 0 (max 1 (min 16 (scV Ls xs 0))) (max 1 (min 12 (scV Ls xs 1))) ((max 1 (min 16 (scV Ls xs 0))) * (max 1 (min 12 (scV Ls xs 1)))) 4 2040 1 (mix0 4) (seg0 0 (-1) 8) (fun _ => 0) 2 (zu (fun _ => 0) 1 255) (zu (fun _ => 0) 1 255) (fun _ => none) ++ [(md, .inr (6, [.int (zI (0)), .int (zI (0)), .int (zI (0)), .int (zI (0)), .null, .null, .null, .int (zI (0)), .int (zI (0)), .null, .int (zI (0)), .int (zI (0)), .null, .null, .null, .null, .null, .null, .null]))]) := hD
  refine lv_dup hx hb dL_law_21 rfl ?_
  refine lv_aload_n hx hb dL_law_22 rfl (lv_at hl 1 rfl) ?_
  refine z_iconst hx hb dL_law_23 ?_
  refine z_call1 (As := [.ref b, .int (zI 0)]) (rest := [.ref md, .ref md]) hx hb hml hown hT (c_L_cell l b Ls xs hLs 0 (by omega)) kc_L_67 (by (try dsimp only); omega) ⟨rfl, rfl⟩ (by (try dsimp only); omega) (hX.kept (hS.2.1 b hbl hbA)) rfl hl.1 rfl (Nat.le_of_ble_eq_true rfl) dL_law_24 ?_
  refine lv_aload_n hx hb dL_law_27 rfl (lv_at hl 1 rfl) ?_
  refine z_iconst hx hb dL_law_28 ?_
  refine z_call1 (As := [.ref b, .int (zI 1)]) (rest := [.int (zI (scV Ls xs 0)), .ref md, .ref md]) hx hb hml hown hT (c_L_cell l b Ls xs hLs 1 (by omega)) kc_L_67 (by (try dsimp only); omega) ⟨rfl, rfl⟩ (by (try dsimp only); omega) (hX.kept (hS.2.1 b hbl hbA)) rfl hl.1 rfl (Nat.le_of_ble_eq_true rfl) dL_law_29 ?_
  have hP : zP G ((xL G xx pg ik mx co pa cv ca cb ar 0 (max 1 (min 16 (scV Ls xs 0))) (max 1 (min 12 (scV Ls xs 1))) ((max 1 (min 16 (scV Ls xs 0))) * (max 1 (min 12 (scV Ls xs 1)))) 4 2040 1 (mix0 4) (seg0 0 (-1) 8) (fun _ => 0) 2 (zu (fun _ => 0) 1 255) (zu (fun _ => 0) 1 255) (fun _ => none) ++ [(md, .inr (6, [.int (zI (0)), .int (zI (0)), .int (zI (0)), .int (zI (0)), .null, .null, .null, .int (zI (0)), .int (zI (0)), .null, .int (zI (0)), .int (zI (0)), .null, .null, .null, .null, .null, .null, .null]))]) ++ []) H := hP
  have hD : va_D A ((xL G xx pg ik mx co pa cv ca cb ar 0 (max 1 (min 16 (scV Ls xs 0))) (max 1 (min 12 (scV Ls xs 1))) ((max 1 (min 16 (scV Ls xs 0))) * (max 1 (min 12 (scV Ls xs 1)))) 4 2040 1 (mix0 4) (seg0 0 (-1) 8) (fun _ => 0) 2 (zu (fun _ => 0) 1 255) (zu (fun _ => 0) 1 255) (fun _ => none) ++ [(md, .inr (6, [.int (zI (0)), .int (zI (0)), .int (zI (0)), .int (zI (0)), .null, .null, .null, .int (zI (0)), .int (zI (0)), .null, .int (zI (0)), .int (zI (0)), .null, .null, .null, .null, .null, .null, .null]))]) ++ []) := hD
  refine z_wI (G := G) (X := xL G xx pg ik mx co pa cv ca cb ar 0 (max 1 (min 16 (scV Ls xs 0))) (max 1 (min 12 (scV Ls xs 1))) ((max 1 (min 16 (scV Ls xs 0))) * (max 1 (min 12 (scV Ls xs 1)))) 4 2040 1 (mix0 4) (seg0 0 (-1) 8) (fun _ => 0) 2 (zu (fun _ => 0) 1 255) (zu (fun _ => 0) 1 255) (fun _ => none) ++ [(md, .inr (6, [.int (zI (0)), .int (zI (0)), .int (zI (0)), .int (zI (0)), .null, .null, .null, .int (zI (0)), .int (zI (0)), .null, .int (zI (0)), .int (zI (0)), .null, .null, .null, .null, .null, .null, .null]))]) (wc := [(md, .inr (6, [.int (zI (0)), .int (zI (0)), .int (zI (0)), .int (zI (0)), .null, .null, .null, .int (zI (0)), .int (zI (0)), .null, .int (zI (0)), .int (zI (0)), .null, .null, .null, .null, .null, .null, .null]))]) (wr := xL G xx pg ik mx co pa cv ca cb ar 0 (max 1 (min 16 (scV Ls xs 0))) (max 1 (min 12 (scV Ls xs 1))) ((max 1 (min 16 (scV Ls xs 0))) * (max 1 (min 12 (scV Ls xs 1)))) 4 2040 1 (mix0 4) (seg0 0 (-1) 8) (fun _ => 0) 2 (zu (fun _ => 0) 1 255) (zu (fun _ => 0) 1 255) (fun _ => none)) (pl := []) (As := [.int (zI (scV Ls xs 0)), .int (zI (scV Ls xs 1))]) (rest := [.ref md]) hx hb hml hown hT hK (c_X5_init l G md (scV Ls xs 0) (scV Ls xs 1) (scV_r _ _ _) (scV_r _ _ _)) kc_L_76 (by (try dsimp only); omega) (by (try dsimp only); omega) hP hD hS hA [10] [0, 1, 2, 3, 4, 5, 6, 7, 8, 9] rfl rfl rfl rfl (by decide) rfl hl.1 rfl (Nat.le_of_ble_eq_true rfl) dL_law_32 (fun u8 H locs hok8 hP hD hS => ?_)
  obtain ⟨ma, mb, mc, mt, m1, m2, m3, m4, m5, m6, m7⟩ := u8
  have hP : zP G (xL G xx pg ik mx co pa cv ca cb ar 0 (max 1 (min 16 (scV Ls xs 0))) (max 1 (min 12 (scV Ls xs 1))) ((max 1 (min 16 (scV Ls xs 0))) * (max 1 (min 12 (scV Ls xs 1)))) 4 2040 1 (mix0 4) (seg0 0 (-1) 8) (fun _ => 0) 2 (zu (fun _ => 0) 1 255) (zu (fun _ => 0) 1 255) (fun _ => none) ++ mdL G md ma mb mc mt m1 m2 m3 m4 m5 m6 m7 0 (max 1 (min 16 (scV Ls xs 0))) (max 1 (min 12 (scV Ls xs 1))) 4 2040 1 2 0 (mix0 4) (fun _ => 0) (seg0 0 (-1) 8) (zu (seg0 1 (-1) 255) 255 255) (fun _ => 0) (fun _ => 0) (fun _ => 0) (fun _ => 0) (fun _ => 0) (fun _ => 0) (fun _ => 0)) H := by have := hP; rw [List.append_nil] at this; exact this
  have hD : va_D A (xL G xx pg ik mx co pa cv ca cb ar 0 (max 1 (min 16 (scV Ls xs 0))) (max 1 (min 12 (scV Ls xs 1))) ((max 1 (min 16 (scV Ls xs 0))) * (max 1 (min 12 (scV Ls xs 1)))) 4 2040 1 (mix0 4) (seg0 0 (-1) 8) (fun _ => 0) 2 (zu (fun _ => 0) 1 255) (zu (fun _ => 0) 1 255) (fun _ => none) ++ mdL G md ma mb mc mt m1 m2 m3 m4 m5 m6 m7 0 (max 1 (min 16 (scV Ls xs 0))) (max 1 (min 12 (scV Ls xs 1))) 4 2040 1 2 0 (mix0 4) (fun _ => 0) (seg0 0 (-1) 8) (zu (seg0 1 (-1) 255) 255 255) (fun _ => 0) (fun _ => 0) (fun _ => 0) (fun _ => 0) (fun _ => 0) (fun _ => 0) (fun _ => 0)) := by have := hD; rw [List.append_nil] at this; exact this
  refine lv_astore_n (lv' := [(2, .ref md), (1, .ref xx), (0, .ref b)]) hx hb dL_law_35 rfl hl (by decide) rfl (fun ls hl => ?_)
  refine z_iconst hx hb dL_law_36 ?_
  refine z_newl hx hb hT hK hP hD hS hA (by (try dsimp only); omega) (by (try dsimp only); omega) dL_law_37 (fun oa H hP hD hS => ?_)
  refine lv_astore_n (lv' := [(3, .ref oa), (2, .ref md), (1, .ref xx), (0, .ref b)]) hx hb dL_law_39 rfl hl (by decide) rfl (fun ls hl => ?_)
  refine z_iconst hx hb dL_law_40 ?_
  refine lv_istore (lv' := [(4, .int (zI 2)), (3, .ref oa), (2, .ref md), (1, .ref xx), (0, .ref b)]) hx hb dL_law_41 hl (by decide) rfl (fun ls hl => ?_)
  have hP : zP G ((ol G oa 0 :: xL G xx pg ik mx co pa cv ca cb ar 0 (max 1 (min 16 (scV Ls xs 0))) (max 1 (min 12 (scV Ls xs 1))) ((max 1 (min 16 (scV Ls xs 0))) * (max 1 (min 12 (scV Ls xs 1)))) 4 2040 1 (mix0 4) (seg0 0 (-1) 8) (fun _ => 0) 2 (zu (fun _ => 0) 1 255) (zu (fun _ => 0) 1 255) (fun _ => none)) ++ mdL G md ma mb mc mt m1 m2 m3 m4 m5 m6 m7 0 (max 1 (min 16 (scV Ls xs 0))) (max 1 (min 12 (scV Ls xs 1))) 4 2040 1 2 0 (mix0 4) (fun _ => 0) (seg0 0 (-1) 8) (zu (seg0 1 (-1) 255) 255 255) (fun _ => 0) (fun _ => 0) (fun _ => 0) (fun _ => 0) (fun _ => 0) (fun _ => 0) (fun _ => 0)) H := hP.sub [22, 0, 1, 2, 3, 4, 5, 6, 7, 8, 9, 10, 11, 12, 13, 14, 15, 16, 17, 18, 19, 20, 21] rfl
  have hD : va_D A ((ol G oa 0 :: xL G xx pg ik mx co pa cv ca cb ar 0 (max 1 (min 16 (scV Ls xs 0))) (max 1 (min 12 (scV Ls xs 1))) ((max 1 (min 16 (scV Ls xs 0))) * (max 1 (min 12 (scV Ls xs 1)))) 4 2040 1 (mix0 4) (seg0 0 (-1) 8) (fun _ => 0) 2 (zu (fun _ => 0) 1 255) (zu (fun _ => 0) 1 255) (fun _ => none)) ++ mdL G md ma mb mc mt m1 m2 m3 m4 m5 m6 m7 0 (max 1 (min 16 (scV Ls xs 0))) (max 1 (min 12 (scV Ls xs 1))) 4 2040 1 2 0 (mix0 4) (fun _ => 0) (seg0 0 (-1) 8) (zu (seg0 1 (-1) 255) 255 255) (fun _ => 0) (fun _ => 0) (fun _ => 0) (fun _ => 0) (fun _ => 0) (fun _ => 0) (fun _ => 0)) := hD.sub [22, 0, 1, 2, 3, 4, 5, 6, 7, 8, 9, 10, 11, 12, 13, 14, 15, 16, 17, 18, 19, 20, 21] (by decide) rfl
  have eW : lawW G oa xx pg ik mx co pa cv ca cb ar md ma mb mc mt m1 m2 m3 m4 m5 m6 m7 (max 1 (min 16 (scV Ls xs 0))) (max 1 (min 12 (scV Ls xs 1))) 0 0 4 2040 1 2 2 (mix0 4) (seg0 0 (-1) 8) (zu (fun _ => 0) 1 255) (zu (fun _ => 0) 1 255) (fun _ => 0) (zu (seg0 1 (-1) 255) 255 255) (fun _ => 0) (fun _ => 0) (fun _ => 0) (fun _ => 0) (fun _ => 0) (fun _ => 0) (fun _ => 0) [] = (ol G oa 0 :: xL G xx pg ik mx co pa cv ca cb ar 0 (max 1 (min 16 (scV Ls xs 0))) (max 1 (min 12 (scV Ls xs 1))) ((max 1 (min 16 (scV Ls xs 0))) * (max 1 (min 12 (scV Ls xs 1)))) 4 2040 1 (mix0 4) (seg0 0 (-1) 8) (fun _ => 0) 2 (zu (fun _ => 0) 1 255) (zu (fun _ => 0) 1 255) (fun _ => none)) ++ mdL G md ma mb mc mt m1 m2 m3 m4 m5 m6 m7 0 (max 1 (min 16 (scV Ls xs 0))) (max 1 (min 12 (scV Ls xs 1))) 4 2040 1 2 0 (mix0 4) (fun _ => 0) (seg0 0 (-1) 8) (zu (seg0 1 (-1) 255) 255 255) (fun _ => 0) (fun _ => 0) (fun _ => 0) (fun _ => 0) (fun _ => 0) (fun _ => 0) (fun _ => 0) := by
    show (_ ++ clAll G []) = _
    have e0 : clAll G [] = [] := rfl
    rw [e0, List.append_nil]; rfl
  exact law_loop hc ⟨hcE, hsE⟩ hend 513 2 _ _ 0 0 4 2040 1 2 2 (mix0 4) (seg0 0 (-1) 8) (zu (fun _ => 0) 1 255) (zu (fun _ => 0) 1 255) (fun _ => 0) (zu (seg0 1 (-1) 255) 255 255) (fun _ => 0) (fun _ => 0) (fun _ => 0) (fun _ => 0) (fun _ => 0) (fun _ => 0) (fun _ => 0) [] H locs ls ⟨by omega, by omega⟩ (by omega) (by (try dsimp only); omega) (by (try dsimp only); omega) lInv0 (lv_sub hl [4, 3, 2, 1, 0] rfl) (by rw [eW]; exact hP) (by rw [eW]; exact hD) hS