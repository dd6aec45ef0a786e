/-! ===== the law's cases ===== -/
theorem bI_ne0 (b : Bool) : bI b = if bI b = 0 then 0 else 1 := by cases b <;> rfl
theorem z01 (a : Int) : (0 : Int) ≤ (if a = 0 then 0 else 1) ∧ (if a = 0 then 0 else 1) ≤ (1 : Int) := by split <;> omega
theorem zP_set {G : zG} {H : Heap} {ws ws' : va_W} (k0 : Nat) {x x' : Nat × va_E} (hP : zP G ws H) (hk : ws[k0]? = some x) (hw : ws' = ws.set k0 x') (hx : va_at G.1 vwCl x H → va_at G.1 vwCl x' H) : zP G ws' H := by
  subst hw
  intro k q hq
  have hlt : k0 < ws.length := (List.getElem?_eq_some_iff.mp hk).1
  by_cases e : k = k0
  · rw [e, List.getElem?_set_self hlt] at hq
    rw [← Option.some.inj hq]; exact hx (hP k0 x hk)
  · rw [List.getElem?_set_ne (fun z => e z.symm)] at hq
    exact hP k q hq
theorem zD_set {A : Nat → Prop} {ws ws' : va_W} (k0 : Nat) {x x' : Nat × va_E} (hD : va_D A ws) (hk : ws[k0]? = some x) (hw : ws' = ws.set k0 x') (hx : x'.1 = x.1) : va_D A ws' := by
  subst hw
  have hlt : k0 < ws.length := (List.getElem?_eq_some_iff.mp hk).1
  have key : ∀ (k : Nat) (q : Nat × va_E), (ws.set k0 x')[k]? = some q → ∃ q', ws[k]? = some q' ∧ q'.1 = q.1 := fun k q hq => by
    by_cases e : k = k0
    · rw [e, List.getElem?_set_self hlt] at hq
      exact ⟨x, by rw [e]; exact hk, by rw [← Option.some.inj hq]; exact hx.symm⟩
    · rw [List.getElem?_set_ne (fun z => e z.symm)] at hq
      exact ⟨q, hq, rfl⟩
  refine ⟨fun i j p q hi hj e => ?_, fun k q hq => ?_⟩
  · obtain ⟨p', h1, h2⟩ := key i p hi
    obtain ⟨q', h3, h4⟩ := key j q hj
    exact hD.1 i j p' q' h1 h3 (by rw [h2, h4]; exact e)
  · obtain ⟨q', h1, h2⟩ := key k q hq
    rw [← h2]; exact hD.2 k q' h1
section ZWL
variable {p : Program} {l : Launch} {e : Env} {R : Room} {s : State} {m : MethodId} {args : Array Value} {below : List Frame} {meth : Method} {c : Code} {H : Heap} {locs : List Loc} {cells slots : Nat} {Q : State → Prop} {cc : ByteArray} {pc nL : Nat} {ls : Array Slot} {rest st0 : List Value} {A0 : Nat → Prop} {H0 : Heap} {G : zG} {X wc wr pl : va_W}
theorem z_wVl {y : MethodName} {bytes : ByteArray} {maxL index n ci q0 b : Nat} {ret : Option FieldType} {own C : String} {rm : Room} {As : List Value} {fs : List Value} {r : vw_C} {S : Type} {v : S → Int} {ok : S → Prop} {ws2 : S → va_W} (hx : p.tables.exec = Jvm.exec) (hb : c.code = cc) (hml : c.maxLocals = nL) (hown : s.vm.findClass own = some m.cls) (hT : ∀ w ∈ TB, w.before args s = true) (hK : zK G s)
    (hM : zWl l y bytes maxL ret rm G (.ref b :: As) wc v ok ws2) (kc : kcV own index C y bytes maxL ret n) (hR : rm.frames + 1 ≤ R.frames ∧ 8 + (maxL + 11) + rm.locals ≤ R.locals) (hcell : cells + rm.cells ≤ R.cells ∧ slots + rm.slots ≤ R.slots) (hP : zP G (X ++ pl) H) (hD : va_D A0 (X ++ pl)) (hS : va_S A0 H0 H locs) (hA : ∀ q, H0.size ≤ q → A0 q) (isC isR : List Nat) (hC : isC.map (fun i => X[i]?) = wc.map some) (hRr : isR.map (fun i => X[i]?) = wr.map some) (hnC : va_nd isC = true) (hnR : va_nd isR = true) (hdis : ∀ i ∈ isR, i ∉ isC) (he : wc[q0]? = some (b, .inr (ci, fs))) (hc : vwCl[ci]? = some r) (hC' : r.1 = C) (hn : As.length = n) (hls : ls.size = nL) (hst : st0 = As.reverse ++ .ref b :: rest) (hrest : (rest.map fun v => v.category).sum ≤ 8) (hd : decode cc pc = .ok (.invokevirtual index, 3))
    (k : ∀ (u : S) (H : Heap) (locs : List Loc), ok u → zP G ((wr ++ ws2 u) ++ pl) H → va_D A0 ((wr ++ ws2 u) ++ pl) → va_S A0 H0 H locs → W p l e R s m args below meth c H locs (cells + rm.cells) (slots + rm.slots) Q (F0 m (pc + 3) ls (.long (zL (v u)) :: rest))) : W p l e R s m args below meth c H locs cells slots Q (F0 m pc ls st0) := by
  subst hC'
  have hG := kc_G kc
  obtain ⟨k1, k2, k3, k4, k5, k6, k7, k8, k9⟩ := kc
  have hDx := zD_left hD
  have hPc : zP G wc H := (zP_left hP).sub isC (fm_map (wc := wc) isC wc hC)
  have hDc := hDx.sub isC hnC hC
  have hFc := va_free hDx hS hA isC hC
  refine va_calll (va_runV (As := As) (rest := rest) (g := F0 m pc ls st0) ⟨hx, hb, hml, hown, hT⟩ (hM H.size) (cwV n hT hG rfl rfl rfl ⟨k6, k7, k8, k9⟩ hR) ⟨zPw_blind G _ _ _, va_recv hK hPc hc he, fun U hU hW => ⟨rfl, by rw [hU], by rw [hU]; exact hPc, va_K.moved hW.alike hK, hDc.weaken (fun _ _ _ _ => trivial)⟩⟩ rfl hn hls hst (lv_room hrest) hd hcell) hS (fun q _ h => hFc q h) hFc (fun r u t H1 locs1 ht hvm hw hB hz1 hk1 hS1 => ?_)
  obtain ⟨hP1, hK1, hD1⟩ := hB
  rw [ht] at hP1
  obtain ⟨hP2, hD2⟩ := va_joinQ hP hD isC isR hC hRr hnR hdis hk1 hFc hP1 hD1
  rw [hw.1]
  exact k u H1 locs1 hw.2 hP2 hD2 hS1
end ZWL

def lawW (G : zG) (oa xx pg ik mx co pa cv ca cb ar md ma mb mc mt m1 m2 m3 m4 m5 m6 m7 : Nat) (w h ov th cnt most rch cc tl : Int) (M C L V Y T CA CB CN CG CS Z K : Int → Int) (cs : List cT) : va_W := ((ol G oa ov :: xL G xx pg ik mx co pa cv ca cb ar ((cs).length : Int) w h (w * h) cnt most rch M C (PPf Y w (w * h)) cc L V (Fof cs)) ++ mdL G md ma mb mc mt m1 m2 m3 m4 m5 m6 m7 th w h cnt most rch tl (cs.length : Int) M Y C T CA CB CN CG CS Z K) ++ clAll G cs
def lawC (p : Program) (l : Launch) (R : Room) (s : State) (m : MethodId) (args : Array Value) (c : Code) (G : zG) (A : Nat → Prop) (b Ls : Nat) (xs : Nat → Int32) : Prop := p.tables.exec = Jvm.exec ∧ c.code = cL_law ∧ c.maxLocals = 8 ∧ s.vm.findClass RL = some m.cls ∧ (∀ w ∈ TB, w.before args s = true) ∧ zK G s ∧ zX A s s.heap ∧ zNc s ∧ va_X b Ls xs s s.heap ∧ b < s.heap.size ∧ l.stackTraces = false ∧ 12 ≤ R.frames ∧ 442 ≤ R.locals ∧ (∀ q, s.heap.size ≤ q → A q) ∧ ¬ A b ∧ Ls ≤ 3074
def lawN (p : Program) (l : Launch) (e : Env) (R : Room) (s : State) (m : MethodId) (args : Array Value) (below : List Frame) (meth : Method) (c : Code) (cells slots : Nat) (Q : State → Prop) (G : zG) (A : Nat → Prop) (b oa xx pg ik mx co pa cv ca cb ar md ma mb mc mt m1 m2 m3 m4 m5 m6 m7 : Nat) (i w h : Int) : Prop := ∀ (ov th cnt most rch cc tl : Int) (M C L V Y T CA CB CN CG CS Z K : Int → Int) (cs : List cT) (H : Heap) (locs : List Loc) (ls : Array Slot), lInv w h cnt most rch M C cc L V cs tl Y T CN CG CS K → lv_has ls 8 [(0, .ref b), (1, .ref xx), (2, .ref md), (3, .ref oa), (4, .int (zI i))] → zP G (lawW G oa xx pg ik mx co pa cv ca cb ar md ma mb mc mt m1 m2 m3 m4 m5 m6 m7 w h ov th cnt most rch cc tl M C L V Y T CA CB CN CG CS Z K cs) H → va_D A (lawW G oa xx pg ik mx co pa cv ca cb ar md ma mb mc mt m1 m2 m3 m4 m5 m6 m7 w h ov th cnt most rch cc tl M C L V Y T CA CB CN CG CS Z K cs) → va_S A s.heap H locs → W p l e R s m args below meth c H locs cells slots Q (F0 m 1231 ls [])
section LC
variable {p : Program} {l : Launch} {e : Env} {R : Room} {s : State} {m : MethodId} {args : Array Value} {below : List Frame} {meth : Method} {c : Code} {H : Heap} {locs : List Loc} {cells slots : Nat} {Q : State → Prop} {ls : Array Slot} {G : zG} {A : Nat → Prop} {b Ls : Nat} {xs : Nat → Int32} {oa xx pg ik mx co pa cv ca cb ar md ma mb mc mt m1 m2 m3 m4 m5 m6 m7 : Nat} {i w h ov th cnt most rch cc tl : Int} {M C L V Y T CA CB CN CG CS Z K : Int → Int} {cs : List cT}
set_option maxHeartbeats 4000000 in
set_option maxRecDepth 100000 in
theorem law_ink (hc : lawC p l R s m args c G A b Ls xs) (hi : 2 ≤ i ∧ i + 6 ≤ (Ls : Int)) (hI : lInv w h cnt most rch M C cc L V cs tl Y T CN CG CS K) (hl : lv_has ls 8 [(0, .ref b), (1, .ref xx), (2, .ref md), (3, .ref oa), (4, .int (zI i))]) (hP : zP G (lawW G oa xx pg ik mx co pa cv ca cb ar md ma mb mc mt m1 m2 m3 m4 m5 m6 m7 w h ov th cnt most rch cc tl M C L V Y T CA CB CN CG CS Z K cs) H) (hD : va_D A (lawW G oa xx pg ik mx co pa cv ca cb ar md ma mb mc mt m1 m2 m3 m4 m5 m6 m7 w h ov th cnt most rch cc tl M C L V Y T CA CB CN CG CS Z K cs)) (hS : va_S A s.heap H locs) (hcl : cells + 8 ≤ R.cells ∧ slots + 1000 ≤ R.slots) (hn : lawN p l e R s m args below meth c (cells + 8) (slots + 1000) Q G A b oa xx pg ik mx co pa cv ca cb ar md ma mb mc mt m1 m2 m3 m4 m5 m6 m7 i w h) : W p l e R s m args below meth c H locs cells slots Q (F0 m 136 ls []) := by
  obtain ⟨hx, hb, hml, hown, hT, hK, hXz, hN, hX, hbl, hst, hRf, hRl, hA, hbA, hLs⟩ := hc
  have hP : zP G (((ol G oa ov :: xL G xx pg ik mx co pa cv ca cb ar ((cs).length : Int) w h (w * h) cnt most rch M C (PPf Y w (w * h)) cc L V (Fof cs)) ++ mdL G md ma mb mc mt m1 m2 m3 m4 m5 m6 m7 th w h cnt most rch tl (cs.length : Int) M Y C T CA CB CN CG CS Z K) ++ clAll G cs) H := hP
  have hD : va_D A (((ol G oa ov :: xL G xx pg ik mx co pa cv ca cb ar ((cs).length : Int) w h (w * h) cnt most rch M C (PPf Y w (w * h)) cc L V (Fof cs)) ++ mdL G md ma mb mc mt m1 m2 m3 m4 m5 m6 m7 th w h cnt most rch tl (cs.length : Int) M Y C T CA CB CN CG CS Z K) ++ clAll G cs) := hD
  have r1 := scF_r xs (i + 1)
  have r2 := scF_r xs (i + 2)
  have r3 := scF_r xs (i + 3)
  have r4 := scF_r xs (i + 4)
  refine lv_aload_n hx hb dL_law_136 rfl (lv_at hl 1 rfl) ?_
  refine lv_aload_n hx hb dL_law_137 rfl (lv_at hl 0 rfl) ?_
  refine lv_iload hx hb dL_law_138 (lv_at hl 4 rfl) ?_
  refine z_iconst hx hb dL_law_140 ?_
  refine z_iadd hx hb dL_law_141 ?_
  refine z_sld hx hb hX hbl hbA hS ⟨by omega, by omega, by omega⟩ dL_law_142 ?_
  refine lv_aload_n hx hb dL_law_143 rfl (lv_at hl 0 rfl) ?_
  refine lv_iload hx hb dL_law_144 (lv_at hl 4 rfl) ?_
  refine z_iconst hx hb dL_law_146 ?_
  refine z_iadd hx hb dL_law_147 ?_
  refine z_sld hx hb hX hbl hbA hS ⟨by omega, by omega, by omega⟩ dL_law_148 ?_
  refine lv_aload_n hx hb dL_law_149 rfl (lv_at hl 0 rfl) ?_
  refine lv_iload hx hb dL_law_150 (lv_at hl 4 rfl) ?_
  refine z_iconst hx hb dL_law_152 ?_
  refine z_iadd hx hb dL_law_153 ?_
  refine z_sld hx hb hX hbl hbA hS ⟨by omega, by omega, by omega⟩ dL_law_154 ?_
  refine lv_aload_n hx hb dL_law_155 rfl (lv_at hl 0 rfl) ?_
  refine lv_iload hx hb dL_law_156 (lv_at hl 4 rfl) ?_
  refine z_iconst hx hb dL_law_158 ?_
  refine z_iadd hx hb dL_law_159 ?_
  refine z_sld hx hb hX hbl hbA hS ⟨by omega, by omega, by omega⟩ dL_law_160 ?_
  refine lv_aload_n hx hb dL_law_161 rfl (lv_at hl 3 rfl) ?_
  refine z_sH (G := G) (X := (ol G oa ov :: xL G xx pg ik mx co pa cv ca cb ar ((cs).length : Int) w h (w * h) cnt most rch M C (PPf Y w (w * h)) cc L V (Fof cs)) ++ mdL G md ma mb mc mt m1 m2 m3 m4 m5 m6 m7 th w h cnt most rch tl (cs.length : Int) M Y C T CA CB CN CG CS Z K) (cx := ol G oa ov :: xL G xx pg ik mx co pa cv ca cb ar ((cs).length : Int) w h (w * h) cnt most rch M C (PPf Y w (w * h)) cc L V (Fof cs)) (pl := clAll G cs) (As := [.ref xx, .int (zI ((scF xs (i + 1)))), .int (zI ((scF xs (i + 2)))), .int (zI ((scF xs (i + 3)))), .int (zI ((scF xs (i + 4)))), .ref oa]) (rest := []) hx hb hml hown hT hK (c_L_ink l hst G xx pg ik mx co pa cv ca cb ar ((cs.length : Nat) : Int) w h (w * h) cnt most rch M C (PPf Y w (w * h)) cc L V cs (scF xs (i + 1)) (scF xs (i + 2)) (scF xs (i + 3)) (scF xs (i + 4)) oa ov (lInv_pg hI) hI.2.2.1 (lInv_nx hI) hI.2.2.2.2.1 rfl r1 r2 r3 r4) kh_L_77 (by dsimp only; omega) (by dsimp only; omega) hP hD hS hA hXz hN [0, 1, 2, 3, 4, 5, 6, 7, 8, 9, 10] rfl rfl rfl hl.1 rfl (Nat.le_of_ble_eq_true rfl) dL_law_162 (fun u9 H1 locs1 hok9 hk9 hsub9 hP9 hD9 hS => ?_)
  have hcr : 0 ≤ (cInk (scF xs (i + 1)) (scF xs (i + 2)) (scF xs (i + 3)) (scF xs (i + 4)) cnt) ∧ (cInk (scF xs (i + 1)) (scF xs (i + 2)) (scF xs (i + 3)) (scF xs (i + 4)) cnt) ≤ 3 := by
    unfold cInk; (repeat' split) <;> omega
  try dsimp only at hP9 hD9 hok9
  by_cases hcd : (cInk (scF xs (i + 1)) (scF xs (i + 2)) (scF xs (i + 3)) (scF xs (i + 4)) cnt) = 0
  · skip
    rw [if_pos hcd] at hP9 hD9
    obtain ⟨hP, hD⟩ := va_joinP (X := (ol G oa ov :: xL G xx pg ik mx co pa cv ca cb ar ((cs).length : Int) w h (w * h) cnt most rch M C (PPf Y w (w * h)) cc L V (Fof cs)) ++ mdL G md ma mb mc mt m1 m2 m3 m4 m5 m6 m7 th w h cnt most rch tl (cs.length : Int) M Y C T CA CB CN CG CS Z K) (cx := ol G oa ov :: xL G xx pg ik mx co pa cv ca cb ar ((cs).length : Int) w h (w * h) cnt most rch M C (PPf Y w (w * h)) cc L V (Fof cs)) (pl := clAll G cs) (wr := mdL G md ma mb mc mt m1 m2 m3 m4 m5 m6 m7 th w h cnt most rch tl (cs.length : Int) M Y C T CA CB CN CG CS Z K) (rx := ol G oa ((zI (cnt)).toInt) :: xL G xx pg ik mx co pa cv ca cb ar ((cs).length : Int) w h (w * h) (cnt + 1) most rch (zu (zu (zu (zu M (cnt * 4) (scF xs (i + 1))) (cnt * 4 + 1) (scF xs (i + 2))) (cnt * 4 + 2) (scF xs (i + 3))) (cnt * 4 + 3) (scF xs (i + 4))) C (PPf Y w (w * h)) cc L V (Fof cs)) (pl1 := clAll G (cs)) hP hD [0, 1, 2, 3, 4, 5, 6, 7, 8, 9, 10] [11, 12, 13, 14, 15, 16, 17, 18, 19, 20, 21, 22] rfl rfl rfl (by decide) hk9 hsub9 hP9 hD9
    refine lv_istore (lv' := [(5, .int (zI ((cInk (scF xs (i + 1)) (scF xs (i + 2)) (scF xs (i + 3)) (scF xs (i + 4)) cnt)))), (0, .ref b), (1, .ref xx), (2, .ref md), (3, .ref oa), (4, .int (zI (i)))]) hx hb dL_law_165 hl (by decide) rfl (fun ls hl => ?_)
    refine lv_aload_n hx hb dL_law_167 rfl (lv_at hl 3 rfl) ?_
    refine lv_aload_n hx hb dL_law_168 rfl (lv_at hl 1 rfl) ?_
    refine lv_iload hx hb dL_law_169 (lv_at hl 5 rfl) ?_
    refine z_iconst hx hb dL_law_171 ?_
    refine z_iadd hx hb dL_law_172 ?_
    refine z_sld hx hb hX hbl hbA hS ⟨by omega, by omega, by omega⟩ dL_law_173 ?_
    refine lv_aload_n hx hb dL_law_174 rfl (lv_at hl 1 rfl) ?_
    refine lv_iload hx hb dL_law_175 (lv_at hl 5 rfl) ?_
    refine z_iconst hx hb dL_law_177 ?_
    refine z_iadd hx hb dL_law_178 ?_
    refine z_sld hx hb hX hbl hbA hS ⟨by omega, by omega, by omega⟩ dL_law_179 ?_
    refine lv_aload_n hx hb dL_law_180 rfl (lv_at hl 1 rfl) ?_
    refine lv_iload hx hb dL_law_181 (lv_at hl 5 rfl) ?_
    refine z_iconst hx hb dL_law_183 ?_
    refine z_iadd hx hb dL_law_184 ?_
    refine z_sld hx hb hX hbl hbA hS ⟨by omega, by omega, by omega⟩ dL_law_185 ?_
    refine lv_aload_n hx hb dL_law_186 rfl (lv_at hl 1 rfl) ?_
    refine lv_iload hx hb dL_law_187 (lv_at hl 5 rfl) ?_
    refine z_iconst hx hb dL_law_189 ?_
    refine z_iadd hx hb dL_law_190 ?_
    refine z_sld hx hb hX hbl hbA hS ⟨by omega, by omega, by omega⟩ dL_law_191 ?_
    refine z_wVi (G := G) (X := mdL G md ma mb mc mt m1 m2 m3 m4 m5 m6 m7 th w h cnt most rch tl (cs.length : Int) M Y C T CA CB CN CG CS Z K ++ (ol G oa ((zI (cnt)).toInt) :: xL G xx pg ik mx co pa cv ca cb ar ((cs).length : Int) w h (w * h) (cnt + 1) most rch (zu (zu (zu (zu M (cnt * 4) (scF xs (i + 1))) (cnt * 4 + 1) (scF xs (i + 2))) (cnt * 4 + 2) (scF xs (i + 3))) (cnt * 4 + 3) (scF xs (i + 4))) C (PPf Y w (w * h)) cc L V (Fof cs))) (wc := mdL G md ma mb mc mt m1 m2 m3 m4 m5 m6 m7 th w h cnt most rch tl (cs.length : Int) M Y C T CA CB CN CG CS Z K) (wr := ol G oa ((zI (cnt)).toInt) :: xL G xx pg ik mx co pa cv ca cb ar ((cs).length : Int) w h (w * h) (cnt + 1) most rch (zu (zu (zu (zu M (cnt * 4) (scF xs (i + 1))) (cnt * 4 + 1) (scF xs (i + 2))) (cnt * 4 + 2) (scF xs (i + 3))) (cnt * 4 + 3) (scF xs (i + 4))) C (PPf Y w (w * h)) cc L V (Fof cs)) (pl := clAll G (cs)) (q0 := 0) (As := [.int (zI ((scF xs (i + 1)))), .int (zI ((scF xs (i + 2)))), .int (zI ((scF xs (i + 3)))), .int (zI ((scF xs (i + 4))))]) (rest := []) hx hb hml hown hT hK (c_X5_ink l G md ma mb mc mt m1 m2 m3 m4 m5 m6 m7 th w h cnt most rch tl ((cs.length : Nat) : Int) M Y C T CA CB CN CG CS Z K (scF xs (i + 1)) (scF xs (i + 2)) (scF xs (i + 3)) (scF xs (i + 4)) hI.1 r1 r2 r3 r4) kc_L_80 (by dsimp only; omega) (by dsimp only; omega) hP hD hS hA [0, 1, 2, 3, 4, 5, 6, 7, 8, 9, 10, 11] [12, 13, 14, 15, 16, 17, 18, 19, 20, 21, 22] rfl rfl rfl rfl (by decide) rfl rfl rfl rfl hl.1 rfl (Nat.le_of_ble_eq_true rfl) dL_law_192 (fun u8 H locs hok8 hP hD hS => ?_)
    try dsimp only at hP hD hok8
    try simp only [if_pos hcd] at hP hD
    have hP : zP G (((ol G oa ((zI (cnt)).toInt) :: xL G xx pg ik mx co pa cv ca cb ar ((cs).length : Int) w h (w * h) (cnt + 1) most rch (zu (zu (zu (zu M (cnt * 4) (scF xs (i + 1))) (cnt * 4 + 1) (scF xs (i + 2))) (cnt * 4 + 2) (scF xs (i + 3))) (cnt * 4 + 3) (scF xs (i + 4))) C (PPf Y w (w * h)) cc L V (Fof cs)) ++ mdL G md ma mb mc mt m1 m2 m3 m4 m5 m6 m7 (cInk (scF xs (i + 1)) (scF xs (i + 2)) (scF xs (i + 3)) (scF xs (i + 4)) cnt) w h (cnt + 1) most rch tl (cs.length : Int) (zu (zu (zu (zu M (cnt * 4) (scF xs (i + 1))) (cnt * 4 + 1) (scF xs (i + 2))) (cnt * 4 + 2) (scF xs (i + 3))) (cnt * 4 + 3) (scF xs (i + 4))) Y C T CA CB CN CG CS Z K) ++ clAll G (cs)) H := hP
    have hD : va_D A (((ol G oa ((zI (cnt)).toInt) :: xL G xx pg ik mx co pa cv ca cb ar ((cs).length : Int) w h (w * h) (cnt + 1) most rch (zu (zu (zu (zu M (cnt * 4) (scF xs (i + 1))) (cnt * 4 + 1) (scF xs (i + 2))) (cnt * 4 + 2) (scF xs (i + 3))) (cnt * 4 + 3) (scF xs (i + 4))) C (PPf Y w (w * h)) cc L V (Fof cs)) ++ mdL G md ma mb mc mt m1 m2 m3 m4 m5 m6 m7 (cInk (scF xs (i + 1)) (scF xs (i + 2)) (scF xs (i + 3)) (scF xs (i + 4)) cnt) w h (cnt + 1) most rch tl (cs.length : Int) (zu (zu (zu (zu M (cnt * 4) (scF xs (i + 1))) (cnt * 4 + 1) (scF xs (i + 2))) (cnt * 4 + 2) (scF xs (i + 3))) (cnt * 4 + 3) (scF xs (i + 4))) Y C T CA CB CN CG CS Z K) ++ clAll G (cs)) := hD
    refine lv_istore (lv' := [(6, .int (zI ((if (cInk (scF xs (i + 1)) (scF xs (i + 2)) (scF xs (i + 3)) (scF xs (i + 4)) cnt) = 0 then cnt else 0)))), (5, .int (zI ((cInk (scF xs (i + 1)) (scF xs (i + 2)) (scF xs (i + 3)) (scF xs (i + 4)) cnt)))), (0, .ref b), (1, .ref xx), (2, .ref md), (3, .ref oa), (4, .int (zI (i)))]) hx hb dL_law_195 hl (by decide) rfl (fun ls hl => ?_)
    refine lv_aload_n hx hb dL_law_197 rfl (lv_at hl 4 rfl) ?_
    refine z_callV (q0 := 0) (G := G) (As := []) (rest := []) hx hb hml hown hT hK (c_X5_thrown l G md ma mb mc mt m1 m2 m3 m4 m5 m6 m7 (cInk (scF xs (i + 1)) (scF xs (i + 2)) (scF xs (i + 3)) (scF xs (i + 4)) cnt) w h (cnt + 1) most rch tl (cs.length : Int) (zu (zu (zu (zu M (cnt * 4) (scF xs (i + 1))) (cnt * 4 + 1) (scF xs (i + 2))) (cnt * 4 + 2) (scF xs (i + 3))) (cnt * 4 + 3) (scF xs (i + 4))) Y C T CA CB CN CG CS Z K) kc_L_81 (by dsimp only; omega) ⟨rfl, rfl⟩ (by dsimp only; omega) ((zP_left hP).sub [11, 12, 13, 14, 15, 16, 17, 18, 19, 20, 21, 22] rfl) rfl rfl rfl rfl hl.1 rfl (Nat.le_of_ble_eq_true rfl) dL_law_198 ?_
    refine lv_iload hx hb dL_law_201 (lv_at hl 1 rfl) ?_
    refine z_icmp_eq (tgt := 208) hx hb dL_law_203 (by decide) (by omega) (by omega) (fun _ => ?_) (fun h => absurd rfl h)
    refine lv_iload hx hb dL_law_208 (lv_at hl 1 rfl) ?_
    refine z_if_ne (tgt := 225) hx hb dL_law_210 (by decide) (by omega) (fun h => absurd hcd h) (fun _ => ?_)
    refine lv_aload_n hx hb dL_law_213 rfl (lv_at hl 5 rfl) ?_
    refine z_iconst hx hb dL_law_214 ?_
    refine z_lald hx hb hK hP 0 rfl dL_law_215 ?_
    refine lv_iload hx hb dL_law_216 (lv_at hl 0 rfl) ?_
    refine z_i2lw hx hb dL_law_218 ?_
    refine z_lcmp0 hx hb (by rw [if_pos hcd]) dL_law_219 ?_
    refine z_if_eq (tgt := 225) hx hb dL_law_220 (by decide) (by omega) (fun _ => ?_) (fun h => absurd rfl h)
    refine z_goto (tgt := 1231) hx hb dL_law_225 (by decide) ?_
    refine W.widen (k := cells + 8) (n := slots + 1000) (by dsimp only; omega) (by dsimp only; omega) ?_
    exact hn ((zI (cnt)).toInt) (cInk (scF xs (i + 1)) (scF xs (i + 2)) (scF xs (i + 3)) (scF xs (i + 4)) cnt) (cnt + 1) most rch cc tl (zu (zu (zu (zu M (cnt * 4) (scF xs (i + 1))) (cnt * 4 + 1) (scF xs (i + 2))) (cnt * 4 + 2) (scF xs (i + 3))) (cnt * 4 + 3) (scF xs (i + 4))) C L V Y T CA CB CN CG CS Z K cs H locs ls (inv_ink hI hcd) (lv_sub hl [2, 3, 4, 5, 6] rfl) hP hD hS
  · skip
    rw [if_neg hcd] at hP9 hD9
    obtain ⟨hP, hD⟩ := va_joinP (X := (ol G oa ov :: xL G xx pg ik mx co pa cv ca cb ar ((cs).length : Int) w h (w * h) cnt most rch M C (PPf Y w (w * h)) cc L V (Fof cs)) ++ mdL G md ma mb mc mt m1 m2 m3 m4 m5 m6 m7 th w h cnt most rch tl (cs.length : Int) M Y C T CA CB CN CG CS Z K) (cx := ol G oa ov :: xL G xx pg ik mx co pa cv ca cb ar ((cs).length : Int) w h (w * h) cnt most rch M C (PPf Y w (w * h)) cc L V (Fof cs)) (pl := clAll G cs) (wr := mdL G md ma mb mc mt m1 m2 m3 m4 m5 m6 m7 th w h cnt most rch tl (cs.length : Int) M Y C T CA CB CN CG CS Z K) (rx := ol G oa (ov) :: xL G xx pg ik mx co pa cv ca cb ar ((cs).length : Int) w h (w * h) cnt most rch M C (PPf Y w (w * h)) cc L V (Fof cs)) (pl1 := clAll G (cs)) hP hD [0, 1, 2, 3, 4, 5, 6, 7, 8, 9, 10] [11, 12, 13, 14, 15, 16, 17, 18, 19, 20, 21, 22] rfl rfl rfl (by decide) hk9 hsub9 hP9 hD9
    refine lv_istore (lv' := [(5, .int (zI ((cInk (scF xs (i + 1)) (scF xs (i + 2)) (scF xs (i + 3)) (scF xs (i + 4)) cnt)))), (0, .ref b), (1, .ref xx), (2, .ref md), (3, .ref oa), (4, .int (zI (i)))]) hx hb dL_law_165 hl (by decide) rfl (fun ls hl => ?_)
    refine lv_aload_n hx hb dL_law_167 rfl (lv_at hl 3 rfl) ?_
    refine lv_aload_n hx hb dL_law_168 rfl (lv_at hl 1 rfl) ?_
    refine lv_iload hx hb dL_law_169 (lv_at hl 5 rfl) ?_
    refine z_iconst hx hb dL_law_171 ?_
    refine z_iadd hx hb dL_law_172 ?_
    refine z_sld hx hb hX hbl hbA hS ⟨by omega, by omega, by omega⟩ dL_law_173 ?_
    refine lv_aload_n hx hb dL_law_174 rfl (lv_at hl 1 rfl) ?_
    refine lv_iload hx hb dL_law_175 (lv_at hl 5 rfl) ?_
    refine z_iconst hx hb dL_law_177 ?_
    refine z_iadd hx hb dL_law_178 ?_
    refine z_sld hx hb hX hbl hbA hS ⟨by omega, by omega, by omega⟩ dL_law_179 ?_
    refine lv_aload_n hx hb dL_law_180 rfl (lv_at hl 1 rfl) ?_
    refine lv_iload hx hb dL_law_181 (lv_at hl 5 rfl) ?_
    refine z_iconst hx hb dL_law_183 ?_
    refine z_iadd hx hb dL_law_184 ?_
    refine z_sld hx hb hX hbl hbA hS ⟨by omega, by omega, by omega⟩ dL_law_185 ?_
    refine lv_aload_n hx hb dL_law_186 rfl (lv_at hl 1 rfl) ?_
    refine lv_iload hx hb dL_law_187 (lv_at hl 5 rfl) ?_
    refine z_iconst hx hb dL_law_189 ?_
    refine z_iadd hx hb dL_law_190 ?_
    refine z_sld hx hb hX hbl hbA hS ⟨by omega, by omega, by omega⟩ dL_law_191 ?_
    refine z_wVi (G := G) (X := mdL G md ma mb mc mt m1 m2 m3 m4 m5 m6 m7 th w h cnt most rch tl (cs.length : Int) M Y C T CA CB CN CG CS Z K ++ (ol G oa (ov) :: xL G xx pg ik mx co pa cv ca cb ar ((cs).length : Int) w h (w * h) cnt most rch M C (PPf Y w (w * h)) cc L V (Fof cs))) (wc := mdL G md ma mb mc mt m1 m2 m3 m4 m5 m6 m7 th w h cnt most rch tl (cs.length : Int) M Y C T CA CB CN CG CS Z K) (wr := ol G oa (ov) :: xL G xx pg ik mx co pa cv ca cb ar ((cs).length : Int) w h (w * h) cnt most rch M C (PPf Y w (w * h)) cc L V (Fof cs)) (pl := clAll G (cs)) (q0 := 0) (As := [.int (zI ((scF xs (i + 1)))), .int (zI ((scF xs (i + 2)))), .int (zI ((scF xs (i + 3)))), .int (zI ((scF xs (i + 4))))]) (rest := []) hx hb hml hown hT hK (c_X5_ink l G md ma mb mc mt m1 m2 m3 m4 m5 m6 m7 th w h cnt most rch tl ((cs.length : Nat) : Int) M Y C T CA CB CN CG CS Z K (scF xs (i + 1)) (scF xs (i + 2)) (scF xs (i + 3)) (scF xs (i + 4)) hI.1 r1 r2 r3 r4) kc_L_80 (by dsimp only; omega) (by dsimp only; omega) hP hD hS hA [0, 1, 2, 3, 4, 5, 6, 7, 8, 9, 10, 11] [12, 13, 14, 15, 16, 17, 18, 19, 20, 21, 22] rfl rfl rfl rfl (by decide) rfl rfl rfl rfl hl.1 rfl (Nat.le_of_ble_eq_true rfl) dL_law_192 (fun u8 H locs hok8 hP hD hS => ?_)
    try dsimp only at hP hD hok8
    try simp only [if_neg hcd] at hP hD
    have hP : zP G (((ol G oa (ov) :: xL G xx pg ik mx co pa cv ca cb ar ((cs).length : Int) w h (w * h) cnt most rch M C (PPf Y w (w * h)) cc L V (Fof cs)) ++ mdL G md ma mb mc mt m1 m2 m3 m4 m5 m6 m7 (cInk (scF xs (i + 1)) (scF xs (i + 2)) (scF xs (i + 3)) (scF xs (i + 4)) cnt) w h cnt most rch tl (cs.length : Int) M Y C T CA CB CN CG CS Z K) ++ clAll G (cs)) H := hP
    have hD : va_D A (((ol G oa (ov) :: xL G xx pg ik mx co pa cv ca cb ar ((cs).length : Int) w h (w * h) cnt most rch M C (PPf Y w (w * h)) cc L V (Fof cs)) ++ mdL G md ma mb mc mt m1 m2 m3 m4 m5 m6 m7 (cInk (scF xs (i + 1)) (scF xs (i + 2)) (scF xs (i + 3)) (scF xs (i + 4)) cnt) w h cnt most rch tl (cs.length : Int) M Y C T CA CB CN CG CS Z K) ++ clAll G (cs)) := hD
    refine lv_istore (lv' := [(6, .int (zI ((if (cInk (scF xs (i + 1)) (scF xs (i + 2)) (scF xs (i + 3)) (scF xs (i + 4)) cnt) = 0 then cnt else 0)))), (5, .int (zI ((cInk (scF xs (i + 1)) (scF xs (i + 2)) (scF xs (i + 3)) (scF xs (i + 4)) cnt)))), (0, .ref b), (1, .ref xx), (2, .ref md), (3, .ref oa), (4, .int (zI (i)))]) hx hb dL_law_195 hl (by decide) rfl (fun ls hl => ?_)
    refine lv_aload_n hx hb dL_law_197 rfl (lv_at hl 4 rfl) ?_
    refine z_callV (q0 := 0) (G := G) (As := []) (rest := []) hx hb hml hown hT hK (c_X5_thrown l G md ma mb mc mt m1 m2 m3 m4 m5 m6 m7 (cInk (scF xs (i + 1)) (scF xs (i + 2)) (scF xs (i + 3)) (scF xs (i + 4)) cnt) w h cnt most rch tl (cs.length : Int) M Y C T CA CB CN CG CS Z K) kc_L_81 (by dsimp only; omega) ⟨rfl, rfl⟩ (by dsimp only; omega) ((zP_left hP).sub [11, 12, 13, 14, 15, 16, 17, 18, 19, 20, 21, 22] rfl) rfl rfl rfl rfl hl.1 rfl (Nat.le_of_ble_eq_true rfl) dL_law_198 ?_
    refine lv_iload hx hb dL_law_201 (lv_at hl 1 rfl) ?_
    refine z_icmp_eq (tgt := 208) hx hb dL_law_203 (by decide) (by omega) (by omega) (fun _ => ?_) (fun h => absurd rfl h)
    refine lv_iload hx hb dL_law_208 (lv_at hl 1 rfl) ?_
    refine z_if_ne (tgt := 225) hx hb dL_law_210 (by decide) (by omega) (fun _ => ?_) (fun h => absurd h hcd)
    refine z_goto (tgt := 1231) hx hb dL_law_225 (by decide) ?_
    refine W.widen (k := cells + 8) (n := slots + 1000) (by dsimp only; omega) (by dsimp only; omega) ?_
    exact hn ov (cInk (scF xs (i + 1)) (scF xs (i + 2)) (scF xs (i + 3)) (scF xs (i + 4)) cnt) cnt most rch cc tl M C L V Y T CA CB CN CG CS Z K cs H locs ls (hI) (lv_sub hl [2, 3, 4, 5, 6] rfl) hP hD hS
set_option maxHeartbeats 4000000 in
set_option maxRecDepth 100000 in
theorem law_colour (hc : lawC p l R s m args c G A b Ls xs) (hi : 2 ≤ i ∧ i + 6 ≤ (Ls : Int)) (hI : lInv w h cnt most rch M C cc L V cs tl Y T CN CG CS K) (hl : lv_has ls 8 [(0, .ref b), (1, .ref xx), (2, .ref md), (3, .ref oa), (4, .int (zI i))]) (hP : zP G (lawW G oa xx pg ik mx co pa cv ca cb ar md ma mb mc mt m1 m2 m3 m4 m5 m6 m7 w h ov th cnt most rch cc tl M C L V Y T CA CB CN CG CS Z K cs) H) (hD : va_D A (lawW G oa xx pg ik mx co pa cv ca cb ar md ma mb mc mt m1 m2 m3 m4 m5 m6 m7 w h ov th cnt most rch cc tl M C L V Y T CA CB CN CG CS Z K cs)) (hS : va_S A s.heap H locs) (hcl : cells + 8 ≤ R.cells ∧ slots + 1000 ≤ R.slots) (hn : lawN p l e R s m args below meth c (cells + 8) (slots + 1000) Q G A b oa xx pg ik mx co pa cv ca cb ar md ma mb mc mt m1 m2 m3 m4 m5 m6 m7 i w h) : W p l e R s m args below meth c H locs cells slots Q (F0 m 228 ls []) := by
  obtain ⟨hx, hb, hml, hown, hT, hK, hXz, hN, hX, hbl, hst, hRf, hRl, hA, hbA, hLs⟩ := hc
  have hP : zP G (((ol G oa ov :: xL G xx pg ik mx co pa cv ca cb ar ((cs).length : Int) w h (w * h) cnt most rch M C (PPf Y w (w * h)) cc L V (Fof cs)) ++ mdL G md ma mb mc mt m1 m2 m3 m4 m5 m6 m7 th w h cnt most rch tl (cs.length : Int) M Y C T CA CB CN CG CS Z K) ++ clAll G cs) H := hP
  have hD : va_D A (((ol G oa ov :: xL G xx pg ik mx co pa cv ca cb ar ((cs).length : Int) w h (w * h) cnt most rch M C (PPf Y w (w * h)) cc L V (Fof cs)) ++ mdL G md ma mb mc mt m1 m2 m3 m4 m5 m6 m7 th w h cnt most rch tl (cs.length : Int) M Y C T CA CB CN CG CS Z K) ++ clAll G cs) := hD
  have r1 := scF_r xs (i + 1)
  have r2 := scF_r xs (i + 2)
  refine lv_aload_n hx hb dL_law_228 rfl (lv_at hl 1 rfl) ?_
  refine lv_aload_n hx hb dL_law_229 rfl (lv_at hl 0 rfl) ?_
  refine lv_iload hx hb dL_law_230 (lv_at hl 4 rfl) ?_
  refine z_iconst hx hb dL_law_232 ?_
  refine z_iadd hx hb dL_law_233 ?_
  refine z_sld hx hb hX hbl hbA hS ⟨by omega, by omega, by omega⟩ dL_law_234 ?_
  refine lv_aload_n hx hb dL_law_235 rfl (lv_at hl 0 rfl) ?_
  refine lv_iload hx hb dL_law_236 (lv_at hl 4 rfl) ?_
  refine z_iconst hx hb dL_law_238 ?_
  refine z_iadd hx hb dL_law_239 ?_
  refine z_sld hx hb hX hbl hbA hS ⟨by omega, by omega, by omega⟩ dL_law_240 ?_
  refine z_sH (G := G) (X := (ol G oa ov :: xL G xx pg ik mx co pa cv ca cb ar ((cs).length : Int) w h (w * h) cnt most rch M C (PPf Y w (w * h)) cc L V (Fof cs)) ++ mdL G md ma mb mc mt m1 m2 m3 m4 m5 m6 m7 th w h cnt most rch tl (cs.length : Int) M Y C T CA CB CN CG CS Z K) (cx := ol G oa ov :: xL G xx pg ik mx co pa cv ca cb ar ((cs).length : Int) w h (w * h) cnt most rch M C (PPf Y w (w * h)) cc L V (Fof cs)) (pl := clAll G cs) (As := [.ref xx, .int (zI ((scF xs (i + 1)))), .int (zI ((scF xs (i + 2))))]) (rest := []) hx hb hml hown hT hK (c_L_colour l hst G xx pg ik mx co pa cv ca cb ar ((cs.length : Nat) : Int) w h (w * h) cnt most rch M C (PPf Y w (w * h)) cc L V cs (scF xs (i + 1)) (scF xs (i + 2)) oa ov (lInv_pg hI) hI.2.2.1 (lInv_nx hI) hI.2.2.2.2.1 rfl r1 r2) kh_L_85 (by dsimp only; omega) (by dsimp only; omega) hP hD hS hA hXz hN [0, 1, 2, 3, 4, 5, 6, 7, 8, 9, 10] rfl rfl rfl hl.1 rfl (Nat.le_of_ble_eq_true rfl) dL_law_241 (fun u9 H1 locs1 hok9 hk9 hsub9 hP9 hD9 hS => ?_)
  have hcr : 0 ≤ (cCol (scF xs (i + 1)) (scF xs (i + 2)) cnt) ∧ (cCol (scF xs (i + 1)) (scF xs (i + 2)) cnt) ≤ 3 := by
    unfold cCol; (repeat' split) <;> omega
  try dsimp only at hP9 hD9 hok9
  by_cases hcd : (cCol (scF xs (i + 1)) (scF xs (i + 2)) cnt) = 0
  · skip
    rw [if_pos hcd] at hP9 hD9
    obtain ⟨hP, hD⟩ := va_joinP (X := (ol G oa ov :: xL G xx pg ik mx co pa cv ca cb ar ((cs).length : Int) w h (w * h) cnt most rch M C (PPf Y w (w * h)) cc L V (Fof cs)) ++ mdL G md ma mb mc mt m1 m2 m3 m4 m5 m6 m7 th w h cnt most rch tl (cs.length : Int) M Y C T CA CB CN CG CS Z K) (cx := ol G oa ov :: xL G xx pg ik mx co pa cv ca cb ar ((cs).length : Int) w h (w * h) cnt most rch M C (PPf Y w (w * h)) cc L V (Fof cs)) (pl := clAll G cs) (wr := mdL G md ma mb mc mt m1 m2 m3 m4 m5 m6 m7 th w h cnt most rch tl (cs.length : Int) M Y C T CA CB CN CG CS Z K) (rx := ol G oa (ov) :: xL G xx pg ik mx co pa cv ca cb ar ((cs).length : Int) w h (w * h) cnt most rch M (zu C (scF xs (i + 1)) (scF xs (i + 2))) (PPf Y w (w * h)) cc L V (Fof cs)) (pl1 := clAll G (cs)) hP hD [0, 1, 2, 3, 4, 5, 6, 7, 8, 9, 10] [11, 12, 13, 14, 15, 16, 17, 18, 19, 20, 21, 22] rfl rfl rfl (by decide) hk9 hsub9 hP9 hD9
    refine lv_istore (lv' := [(5, .int (zI ((cCol (scF xs (i + 1)) (scF xs (i + 2)) cnt)))), (0, .ref b), (1, .ref xx), (2, .ref md), (3, .ref oa), (4, .int (zI (i)))]) hx hb dL_law_244 hl (by decide) rfl (fun ls hl => ?_)
    refine lv_aload_n hx hb dL_law_246 rfl (lv_at hl 3 rfl) ?_
    refine lv_aload_n hx hb dL_law_247 rfl (lv_at hl 1 rfl) ?_
    refine lv_iload hx hb dL_law_248 (lv_at hl 5 rfl) ?_
    refine z_iconst hx hb dL_law_250 ?_
    refine z_iadd hx hb dL_law_251 ?_
    refine z_sld hx hb hX hbl hbA hS ⟨by omega, by omega, by omega⟩ dL_law_252 ?_
    refine lv_aload_n hx hb dL_law_253 rfl (lv_at hl 1 rfl) ?_
    refine lv_iload hx hb dL_law_254 (lv_at hl 5 rfl) ?_
    refine z_iconst hx hb dL_law_256 ?_
    refine z_iadd hx hb dL_law_257 ?_
    refine z_sld hx hb hX hbl hbA hS ⟨by omega, by omega, by omega⟩ dL_law_258 ?_
    refine z_wVv (G := G) (X := mdL G md ma mb mc mt m1 m2 m3 m4 m5 m6 m7 th w h cnt most rch tl (cs.length : Int) M Y C T CA CB CN CG CS Z K ++ (ol G oa (ov) :: xL G xx pg ik mx co pa cv ca cb ar ((cs).length : Int) w h (w * h) cnt most rch M (zu C (scF xs (i + 1)) (scF xs (i + 2))) (PPf Y w (w * h)) cc L V (Fof cs))) (wc := mdL G md ma mb mc mt m1 m2 m3 m4 m5 m6 m7 th w h cnt most rch tl (cs.length : Int) M Y C T CA CB CN CG CS Z K) (wr := ol G oa (ov) :: xL G xx pg ik mx co pa cv ca cb ar ((cs).length : Int) w h (w * h) cnt most rch M (zu C (scF xs (i + 1)) (scF xs (i + 2))) (PPf Y w (w * h)) cc L V (Fof cs)) (pl := clAll G (cs)) (q0 := 0) (As := [.int (zI ((scF xs (i + 1)))), .int (zI ((scF xs (i + 2))))]) (rest := []) hx hb hml hown hT hK (c_X5_colour l G md ma mb mc mt m1 m2 m3 m4 m5 m6 m7 th w h cnt most rch tl ((cs.length : Nat) : Int) M Y C T CA CB CN CG CS Z K (scF xs (i + 1)) (scF xs (i + 2)) hI.1 r1 r2) kc_L_88 (by dsimp only; omega) (by dsimp only; omega) hP hD hS hA [0, 1, 2, 3, 4, 5, 6, 7, 8, 9, 10, 11] [12, 13, 14, 15, 16, 17, 18, 19, 20, 21, 22] rfl rfl rfl rfl (by decide) rfl rfl rfl rfl hl.1 rfl (Nat.le_of_ble_eq_true rfl) dL_law_259 (fun u8 H locs hok8 hP hD hS => ?_)
    try dsimp only at hP hD hok8
    try simp only [if_pos hcd] at hP hD
    have hP : zP G (((ol G oa (ov) :: xL G xx pg ik mx co pa cv ca cb ar ((cs).length : Int) w h (w * h) cnt most rch M (zu C (scF xs (i + 1)) (scF xs (i + 2))) (PPf Y w (w * h)) cc L V (Fof cs)) ++ mdL G md ma mb mc mt m1 m2 m3 m4 m5 m6 m7 (cCol (scF xs (i + 1)) (scF xs (i + 2)) cnt) w h cnt most rch tl (cs.length : Int) M Y (zu C (scF xs (i + 1)) (scF xs (i + 2))) T CA CB CN CG CS Z K) ++ clAll G (cs)) H := hP
    have hD : va_D A (((ol G oa (ov) :: xL G xx pg ik mx co pa cv ca cb ar ((cs).length : Int) w h (w * h) cnt most rch M (zu C (scF xs (i + 1)) (scF xs (i + 2))) (PPf Y w (w * h)) cc L V (Fof cs)) ++ mdL G md ma mb mc mt m1 m2 m3 m4 m5 m6 m7 (cCol (scF xs (i + 1)) (scF xs (i + 2)) cnt) w h cnt most rch tl (cs.length : Int) M Y (zu C (scF xs (i + 1)) (scF xs (i + 2))) T CA CB CN CG CS Z K) ++ clAll G (cs)) := hD
    refine lv_aload_n hx hb dL_law_262 rfl (lv_at hl 3 rfl) ?_
    refine z_callV (q0 := 0) (G := G) (As := []) (rest := []) hx hb hml hown hT hK (c_X5_thrown l G md ma mb mc mt m1 m2 m3 m4 m5 m6 m7 (cCol (scF xs (i + 1)) (scF xs (i + 2)) cnt) w h cnt most rch tl (cs.length : Int) M Y (zu C (scF xs (i + 1)) (scF xs (i + 2))) T CA CB CN CG CS Z K) kc_L_81 (by dsimp only; omega) ⟨rfl, rfl⟩ (by dsimp only; omega) ((zP_left hP).sub [11, 12, 13, 14, 15, 16, 17, 18, 19, 20, 21, 22] rfl) rfl rfl rfl rfl hl.1 rfl (Nat.le_of_ble_eq_true rfl) dL_law_263 ?_
    refine lv_iload hx hb dL_law_266 (lv_at hl 0 rfl) ?_
    refine z_icmp_eq (tgt := 273) hx hb dL_law_268 (by decide) (by omega) (by omega) (fun _ => ?_) (fun h => absurd rfl h)
    refine z_goto (tgt := 1231) hx hb dL_law_273 (by decide) ?_
    refine W.widen (k := cells + 8) (n := slots + 1000) (by dsimp only; omega) (by dsimp only; omega) ?_
    exact hn ov (cCol (scF xs (i + 1)) (scF xs (i + 2)) cnt) cnt most rch cc tl M (zu C (scF xs (i + 1)) (scF xs (i + 2))) L V Y T CA CB CN CG CS Z K cs H locs ls (inv_col hI hcd) (lv_sub hl [1, 2, 3, 4, 5] rfl) hP hD hS
  · skip
    rw [if_neg hcd] at hP9 hD9
    obtain ⟨hP, hD⟩ := va_joinP (X := (ol G oa ov :: xL G xx pg ik mx co pa cv ca cb ar ((cs).length : Int) w h (w * h) cnt most rch M C (PPf Y w (w * h)) cc L V (Fof cs)) ++ mdL G md ma mb mc mt m1 m2 m3 m4 m5 m6 m7 th w h cnt most rch tl (cs.length : Int) M Y C T CA CB CN CG CS Z K) (cx := ol G oa ov :: xL G xx pg ik mx co pa cv ca cb ar ((cs).length : Int) w h (w * h) cnt most rch M C (PPf Y w (w * h)) cc L V (Fof cs)) (pl := clAll G cs) (wr := mdL G md ma mb mc mt m1 m2 m3 m4 m5 m6 m7 th w h cnt most rch tl (cs.length : Int) M Y C T CA CB CN CG CS Z K) (rx := ol G oa (ov) :: xL G xx pg ik mx co pa cv ca cb ar ((cs).length : Int) w h (w * h) cnt most rch M C (PPf Y w (w * h)) cc L V (Fof cs)) (pl1 := clAll G (cs)) hP hD [0, 1, 2, 3, 4, 5, 6, 7, 8, 9, 10] [11, 12, 13, 14, 15, 16, 17, 18, 19, 20, 21, 22] rfl rfl rfl (by decide) hk9 hsub9 hP9 hD9
    refine lv_istore (lv' := [(5, .int (zI ((cCol (scF xs (i + 1)) (scF xs (i + 2)) cnt)))), (0, .ref b), (1, .ref xx), (2, .ref md), (3, .ref oa), (4, .int (zI (i)))]) hx hb dL_law_244 hl (by decide) rfl (fun ls hl => ?_)
    refine lv_aload_n hx hb dL_law_246 rfl (lv_at hl 3 rfl) ?_
    refine lv_aload_n hx hb dL_law_247 rfl (lv_at hl 1 rfl) ?_
    refine lv_iload hx hb dL_law_248 (lv_at hl 5 rfl) ?_
    refine z_iconst hx hb dL_law_250 ?_
    refine z_iadd hx hb dL_law_251 ?_
    refine z_sld hx hb hX hbl hbA hS ⟨by omega, by omega, by omega⟩ dL_law_252 ?_
    refine lv_aload_n hx hb dL_law_253 rfl (lv_at hl 1 rfl) ?_
    refine lv_iload hx hb dL_law_254 (lv_at hl 5 rfl) ?_
    refine z_iconst hx hb dL_law_256 ?_
    refine z_iadd hx hb dL_law_257 ?_
    refine z_sld hx hb hX hbl hbA hS ⟨by omega, by omega, by omega⟩ dL_law_258 ?_
    refine z_wVv (G := G) (X := mdL G md ma mb mc mt m1 m2 m3 m4 m5 m6 m7 th w h cnt most rch tl (cs.length : Int) M Y C T CA CB CN CG CS Z K ++ (ol G oa (ov) :: xL G xx pg ik mx co pa cv ca cb ar ((cs).length : Int) w h (w * h) cnt most rch M C (PPf Y w (w * h)) cc L V (Fof cs))) (wc := mdL G md ma mb mc mt m1 m2 m3 m4 m5 m6 m7 th w h cnt most rch tl (cs.length : Int) M Y C T CA CB CN CG CS Z K) (wr := ol G oa (ov) :: xL G xx pg ik mx co pa cv ca cb ar ((cs).length : Int) w h (w * h) cnt most rch M C (PPf Y w (w * h)) cc L V (Fof cs)) (pl := clAll G (cs)) (q0 := 0) (As := [.int (zI ((scF xs (i + 1)))), .int (zI ((scF xs (i + 2))))]) (rest := []) hx hb hml hown hT hK (c_X5_colour l G md ma mb mc mt m1 m2 m3 m4 m5 m6 m7 th w h cnt most rch tl ((cs.length : Nat) : Int) M Y C T CA CB CN CG CS Z K (scF xs (i + 1)) (scF xs (i + 2)) hI.1 r1 r2) kc_L_88 (by dsimp only; omega) (by dsimp only; omega) hP hD hS hA [0, 1, 2, 3, 4, 5, 6, 7, 8, 9, 10, 11] [12, 13, 14, 15, 16, 17, 18, 19, 20, 21, 22] rfl rfl rfl rfl (by decide) rfl rfl rfl rfl hl.1 rfl (Nat.le_of_ble_eq_true rfl) dL_law_259 (fun u8 H locs hok8 hP hD hS => ?_)
    try dsimp only at hP hD hok8
    try simp only [if_neg hcd] at hP hD
    have hP : zP G (((ol G oa (ov) :: xL G xx pg ik mx co pa cv ca cb ar ((cs).length : Int) w h (w * h) cnt most rch M C (PPf Y w (w * h)) cc L V (Fof cs)) ++ mdL G md ma mb mc mt m1 m2 m3 m4 m5 m6 m7 (cCol (scF xs (i + 1)) (scF xs (i + 2)) cnt) w h cnt most rch tl (cs.length : Int) M Y C T CA CB CN CG CS Z K) ++ clAll G (cs)) H := hP
    have hD : va_D A (((ol G oa (ov) :: xL G xx pg ik mx co pa cv ca cb ar ((cs).length : Int) w h (w * h) cnt most rch M C (PPf Y w (w * h)) cc L V (Fof cs)) ++ mdL G md ma mb mc mt m1 m2 m3 m4 m5 m6 m7 (cCol (scF xs (i + 1)) (scF xs (i + 2)) cnt) w h cnt most rch tl (cs.length : Int) M Y C T CA CB CN CG CS Z K) ++ clAll G (cs)) := hD
    refine lv_aload_n hx hb dL_law_262 rfl (lv_at hl 3 rfl) ?_
    refine z_callV (q0 := 0) (G := G) (As := []) (rest := []) hx hb hml hown hT hK (c_X5_thrown l G md ma mb mc mt m1 m2 m3 m4 m5 m6 m7 (cCol (scF xs (i + 1)) (scF xs (i + 2)) cnt) w h cnt most rch tl (cs.length : Int) M Y C T CA CB CN CG CS Z K) kc_L_81 (by dsimp only; omega) ⟨rfl, rfl⟩ (by dsimp only; omega) ((zP_left hP).sub [11, 12, 13, 14, 15, 16, 17, 18, 19, 20, 21, 22] rfl) rfl rfl rfl rfl hl.1 rfl (Nat.le_of_ble_eq_true rfl) dL_law_263 ?_
    refine lv_iload hx hb dL_law_266 (lv_at hl 0 rfl) ?_
    refine z_icmp_eq (tgt := 273) hx hb dL_law_268 (by decide) (by omega) (by omega) (fun _ => ?_) (fun h => absurd rfl h)
    refine z_goto (tgt := 1231) hx hb dL_law_273 (by decide) ?_
    refine W.widen (k := cells + 8) (n := slots + 1000) (by dsimp only; omega) (by dsimp only; omega) ?_
    exact hn ov (cCol (scF xs (i + 1)) (scF xs (i + 2)) cnt) cnt most rch cc tl M C L V Y T CA CB CN CG CS Z K cs H locs ls (hI) (lv_sub hl [1, 2, 3, 4, 5] rfl) hP hD hS
set_option maxHeartbeats 4000000 in
set_option maxRecDepth 100000 in
theorem law_limit (hc : lawC p l R s m args c G A b Ls xs) (hi : 2 ≤ i ∧ i + 6 ≤ (Ls : Int)) (hI : lInv w h cnt most rch M C cc L V cs tl Y T CN CG CS K) (hl : lv_has ls 8 [(0, .ref b), (1, .ref xx), (2, .ref md), (3, .ref oa), (4, .int (zI i))]) (hP : zP G (lawW G oa xx pg ik mx co pa cv ca cb ar md ma mb mc mt m1 m2 m3 m4 m5 m6 m7 w h ov th cnt most rch cc tl M C L V Y T CA CB CN CG CS Z K cs) H) (hD : va_D A (lawW G oa xx pg ik mx co pa cv ca cb ar md ma mb mc mt m1 m2 m3 m4 m5 m6 m7 w h ov th cnt most rch cc tl M C L V Y T CA CB CN CG CS Z K cs)) (hS : va_S A s.heap H locs) (hcl : cells + 8 ≤ R.cells ∧ slots + 1000 ≤ R.slots) (hn : lawN p l e R s m args below meth c (cells + 8) (slots + 1000) Q G A b oa xx pg ik mx co pa cv ca cb ar md ma mb mc mt m1 m2 m3 m4 m5 m6 m7 i w h) : W p l e R s m args below meth c H locs cells slots Q (F0 m 365 ls []) := by
  obtain ⟨hx, hb, hml, hown, hT, hK, hXz, hN, hX, hbl, hst, hRf, hRl, hA, hbA, hLs⟩ := hc
  have hP : zP G (((ol G oa ov :: xL G xx pg ik mx co pa cv ca cb ar ((cs).length : Int) w h (w * h) cnt most rch M C (PPf Y w (w * h)) cc L V (Fof cs)) ++ mdL G md ma mb mc mt m1 m2 m3 m4 m5 m6 m7 th w h cnt most rch tl (cs.length : Int) M Y C T CA CB CN CG CS Z K) ++ clAll G cs) H := hP
  have hD : va_D A (((ol G oa ov :: xL G xx pg ik mx co pa cv ca cb ar ((cs).length : Int) w h (w * h) cnt most rch M C (PPf Y w (w * h)) cc L V (Fof cs)) ++ mdL G md ma mb mc mt m1 m2 m3 m4 m5 m6 m7 th w h cnt most rch tl (cs.length : Int) M Y C T CA CB CN CG CS Z K) ++ clAll G cs) := hD
  have r1 := scF_r xs (i + 1)
  refine lv_aload_n hx hb dL_law_365 rfl (lv_at hl 1 rfl) ?_
  refine lv_aload_n hx hb dL_law_366 rfl (lv_at hl 0 rfl) ?_
  refine lv_iload hx hb dL_law_367 (lv_at hl 4 rfl) ?_
  refine z_iconst hx hb dL_law_369 ?_
  refine z_iadd hx hb dL_law_370 ?_
  refine z_sld hx hb hX hbl hbA hS ⟨by omega, by omega, by omega⟩ dL_law_371 ?_
  refine lv_aload_n hx hb dL_law_372 rfl (lv_at hl 3 rfl) ?_
  refine z_sH (G := G) (X := (ol G oa ov :: xL G xx pg ik mx co pa cv ca cb ar ((cs).length : Int) w h (w * h) cnt most rch M C (PPf Y w (w * h)) cc L V (Fof cs)) ++ mdL G md ma mb mc mt m1 m2 m3 m4 m5 m6 m7 th w h cnt most rch tl (cs.length : Int) M Y C T CA CB CN CG CS Z K) (cx := ol G oa ov :: xL G xx pg ik mx co pa cv ca cb ar ((cs).length : Int) w h (w * h) cnt most rch M C (PPf Y w (w * h)) cc L V (Fof cs)) (pl := clAll G cs) (As := [.ref xx, .int (zI ((scF xs (i + 1)))), .ref oa]) (rest := []) hx hb hml hown hT hK (c_L_limit l hst G xx pg ik mx co pa cv ca cb ar ((cs.length : Nat) : Int) w h (w * h) cnt most rch M C (PPf Y w (w * h)) cc L V cs (scF xs (i + 1)) oa ov (lInv_pg hI) hI.2.2.1 (lInv_nx hI) hI.2.2.2.2.1 rfl r1) kh_L_94 (by dsimp only; omega) (by dsimp only; omega) hP hD hS hA hXz hN [0, 1, 2, 3, 4, 5, 6, 7, 8, 9, 10] rfl rfl rfl hl.1 rfl (Nat.le_of_ble_eq_true rfl) dL_law_373 (fun u9 H1 locs1 hok9 hk9 hsub9 hP9 hD9 hS => ?_)
  have hcr : 0 ≤ (cLim (scF xs (i + 1))) ∧ (cLim (scF xs (i + 1))) ≤ 3 := by
    unfold cLim; (repeat' split) <;> omega
  try dsimp only at hP9 hD9 hok9
  by_cases hcd : (cLim (scF xs (i + 1))) = 0
  · skip
    rw [if_pos hcd] at hP9 hD9
    obtain ⟨hP, hD⟩ := va_joinP (X := (ol G oa ov :: xL G xx pg ik mx co pa cv ca cb ar ((cs).length : Int) w h (w * h) cnt most rch M C (PPf Y w (w * h)) cc L V (Fof cs)) ++ mdL G md ma mb mc mt m1 m2 m3 m4 m5 m6 m7 th w h cnt most rch tl (cs.length : Int) M Y C T CA CB CN CG CS Z K) (cx := ol G oa ov :: xL G xx pg ik mx co pa cv ca cb ar ((cs).length : Int) w h (w * h) cnt most rch M C (PPf Y w (w * h)) cc L V (Fof cs)) (pl := clAll G cs) (wr := mdL G md ma mb mc mt m1 m2 m3 m4 m5 m6 m7 th w h cnt most rch tl (cs.length : Int) M Y C T CA CB CN CG CS Z K) (rx := ol G oa ((zI (most)).toInt) :: xL G xx pg ik mx co pa cv ca cb ar ((cs).length : Int) w h (w * h) cnt (scF xs (i + 1)) rch M C (PPf Y w (w * h)) cc L V (Fof cs)) (pl1 := clAll G (cs)) hP hD [0, 1, 2, 3, 4, 5, 6, 7, 8, 9, 10] [11, 12, 13, 14, 15, 16, 17, 18, 19, 20, 21, 22] rfl rfl rfl (by decide) hk9 hsub9 hP9 hD9
    refine lv_istore (lv' := [(5, .int (zI ((cLim (scF xs (i + 1)))))), (0, .ref b), (1, .ref xx), (2, .ref md), (3, .ref oa), (4, .int (zI (i)))]) hx hb dL_law_376 hl (by decide) rfl (fun ls hl => ?_)
    refine lv_aload_n hx hb dL_law_378 rfl (lv_at hl 3 rfl) ?_
    refine lv_aload_n hx hb dL_law_379 rfl (lv_at hl 1 rfl) ?_
    refine lv_iload hx hb dL_law_380 (lv_at hl 5 rfl) ?_
    refine z_iconst hx hb dL_law_382 ?_
    refine z_iadd hx hb dL_law_383 ?_
    refine z_sld hx hb hX hbl hbA hS ⟨by omega, by omega, by omega⟩ dL_law_384 ?_
    refine z_wVi (G := G) (X := mdL G md ma mb mc mt m1 m2 m3 m4 m5 m6 m7 th w h cnt most rch tl (cs.length : Int) M Y C T CA CB CN CG CS Z K ++ (ol G oa ((zI (most)).toInt) :: xL G xx pg ik mx co pa cv ca cb ar ((cs).length : Int) w h (w * h) cnt (scF xs (i + 1)) rch M C (PPf Y w (w * h)) cc L V (Fof cs))) (wc := mdL G md ma mb mc mt m1 m2 m3 m4 m5 m6 m7 th w h cnt most rch tl (cs.length : Int) M Y C T CA CB CN CG CS Z K) (wr := ol G oa ((zI (most)).toInt) :: xL G xx pg ik mx co pa cv ca cb ar ((cs).length : Int) w h (w * h) cnt (scF xs (i + 1)) rch M C (PPf Y w (w * h)) cc L V (Fof cs)) (pl := clAll G (cs)) (q0 := 0) (As := [.int (zI ((scF xs (i + 1))))]) (rest := []) hx hb hml hown hT hK (c_X5_limit l G md ma mb mc mt m1 m2 m3 m4 m5 m6 m7 th w h cnt most rch tl ((cs.length : Nat) : Int) M Y C T CA CB CN CG CS Z K (scF xs (i + 1)) hI.1 r1) kc_L_97 (by dsimp only; omega) (by dsimp only; omega) hP hD hS hA [0, 1, 2, 3, 4, 5, 6, 7, 8, 9, 10, 11] [12, 13, 14, 15, 16, 17, 18, 19, 20, 21, 22] rfl rfl rfl rfl (by decide) rfl rfl rfl rfl hl.1 rfl (Nat.le_of_ble_eq_true rfl) dL_law_385 (fun u8 H locs hok8 hP hD hS => ?_)
    try dsimp only at hP hD hok8
    try simp only [if_pos hcd] at hP hD
    have hP : zP G (((ol G oa ((zI (most)).toInt) :: xL G xx pg ik mx co pa cv ca cb ar ((cs).length : Int) w h (w * h) cnt (scF xs (i + 1)) rch M C (PPf Y w (w * h)) cc L V (Fof cs)) ++ mdL G md ma mb mc mt m1 m2 m3 m4 m5 m6 m7 (cLim (scF xs (i + 1))) w h cnt (scF xs (i + 1)) rch tl (cs.length : Int) M Y C T CA CB CN CG CS Z K) ++ clAll G (cs)) H := hP
    have hD : va_D A (((ol G oa ((zI (most)).toInt) :: xL G xx pg ik mx co pa cv ca cb ar ((cs).length : Int) w h (w * h) cnt (scF xs (i + 1)) rch M C (PPf Y w (w * h)) cc L V (Fof cs)) ++ mdL G md ma mb mc mt m1 m2 m3 m4 m5 m6 m7 (cLim (scF xs (i + 1))) w h cnt (scF xs (i + 1)) rch tl (cs.length : Int) M Y C T CA CB CN CG CS Z K) ++ clAll G (cs)) := hD
    refine lv_istore (lv' := [(6, .int (zI ((if (cLim (scF xs (i + 1))) = 0 then most else 0)))), (5, .int (zI ((cLim (scF xs (i + 1)))))), (0, .ref b), (1, .ref xx), (2, .ref md), (3, .ref oa), (4, .int (zI (i)))]) hx hb dL_law_388 hl (by decide) rfl (fun ls hl => ?_)
    refine lv_aload_n hx hb dL_law_390 rfl (lv_at hl 4 rfl) ?_
    refine z_callV (q0 := 0) (G := G) (As := []) (rest := []) hx hb hml hown hT hK (c_X5_thrown l G md ma mb mc mt m1 m2 m3 m4 m5 m6 m7 (cLim (scF xs (i + 1))) w h cnt (scF xs (i + 1)) rch tl (cs.length : Int) M Y C T CA CB CN CG CS Z K) kc_L_81 (by dsimp only; omega) ⟨rfl, rfl⟩ (by dsimp only; omega) ((zP_left hP).sub [11, 12, 13, 14, 15, 16, 17, 18, 19, 20, 21, 22] rfl) rfl rfl rfl rfl hl.1 rfl (Nat.le_of_ble_eq_true rfl) dL_law_391 ?_
    refine lv_iload hx hb dL_law_394 (lv_at hl 1 rfl) ?_
    refine z_icmp_eq (tgt := 401) hx hb dL_law_396 (by decide) (by omega) (by omega) (fun _ => ?_) (fun h => absurd rfl h)
    refine lv_iload hx hb dL_law_401 (lv_at hl 1 rfl) ?_
    refine z_if_ne (tgt := 418) hx hb dL_law_403 (by decide) (by omega) (fun h => absurd hcd h) (fun _ => ?_)
    refine lv_aload_n hx hb dL_law_406 rfl (lv_at hl 5 rfl) ?_
    refine z_iconst hx hb dL_law_407 ?_
    refine z_lald hx hb hK hP 0 rfl dL_law_408 ?_
    refine lv_iload hx hb dL_law_409 (lv_at hl 0 rfl) ?_
    refine z_i2lw hx hb dL_law_411 ?_
    refine z_lcmp0 hx hb (by rw [if_pos hcd]) dL_law_412 ?_
    refine z_if_eq (tgt := 418) hx hb dL_law_413 (by decide) (by omega) (fun _ => ?_) (fun h => absurd rfl h)
    refine z_goto (tgt := 1231) hx hb dL_law_418 (by decide) ?_
    refine W.widen (k := cells + 8) (n := slots + 1000) (by dsimp only; omega) (by dsimp only; omega) ?_
    exact hn ((zI (most)).toInt) (cLim (scF xs (i + 1))) cnt (scF xs (i + 1)) rch cc tl M C L V Y T CA CB CN CG CS Z K cs H locs ls (inv_lim hI hcd) (lv_sub hl [2, 3, 4, 5, 6] rfl) hP hD hS
  · skip
    rw [if_neg hcd] at hP9 hD9
    obtain ⟨hP, hD⟩ := va_joinP (X := (ol G oa ov :: xL G xx pg ik mx co pa cv ca cb ar ((cs).length : Int) w h (w * h) cnt most rch M C (PPf Y w (w * h)) cc L V (Fof cs)) ++ mdL G md ma mb mc mt m1 m2 m3 m4 m5 m6 m7 th w h cnt most rch tl (cs.length : Int) M Y C T CA CB CN CG CS Z K) (cx := ol G oa ov :: xL G xx pg ik mx co pa cv ca cb ar ((cs).length : Int) w h (w * h) cnt most rch M C (PPf Y w (w * h)) cc L V (Fof cs)) (pl := clAll G cs) (wr := mdL G md ma mb mc mt m1 m2 m3 m4 m5 m6 m7 th w h cnt most rch tl (cs.length : Int) M Y C T CA CB CN CG CS Z K) (rx := ol G oa (ov) :: xL G xx pg ik mx co pa cv ca cb ar ((cs).length : Int) w h (w * h) cnt most rch M C (PPf Y w (w * h)) cc L V (Fof cs)) (pl1 := clAll G (cs)) hP hD [0, 1, 2, 3, 4, 5, 6, 7, 8, 9, 10] [11, 12, 13, 14, 15, 16, 17, 18, 19, 20, 21, 22] rfl rfl rfl (by decide) hk9 hsub9 hP9 hD9
    refine lv_istore (lv' := [(5, .int (zI ((cLim (scF xs (i + 1)))))), (0, .ref b), (1, .ref xx), (2, .ref md), (3, .ref oa), (4, .int (zI (i)))]) hx hb dL_law_376 hl (by decide) rfl (fun ls hl => ?_)
    refine lv_aload_n hx hb dL_law_378 rfl (lv_at hl 3 rfl) ?_
    refine lv_aload_n hx hb dL_law_379 rfl (lv_at hl 1 rfl) ?_
    refine lv_iload hx hb dL_law_380 (lv_at hl 5 rfl) ?_
    refine z_iconst hx hb dL_law_382 ?_
    refine z_iadd hx hb dL_law_383 ?_
    refine z_sld hx hb hX hbl hbA hS ⟨by omega, by omega, by omega⟩ dL_law_384 ?_
    refine z_wVi (G := G) (X := mdL G md ma mb mc mt m1 m2 m3 m4 m5 m6 m7 th w h cnt most rch tl (cs.length : Int) M Y C T CA CB CN CG CS Z K ++ (ol G oa (ov) :: xL G xx pg ik mx co pa cv ca cb ar ((cs).length : Int) w h (w * h) cnt most rch M C (PPf Y w (w * h)) cc L V (Fof cs))) (wc := mdL G md ma mb mc mt m1 m2 m3 m4 m5 m6 m7 th w h cnt most rch tl (cs.length : Int) M Y C T CA CB CN CG CS Z K) (wr := ol G oa (ov) :: xL G xx pg ik mx co pa cv ca cb ar ((cs).length : Int) w h (w * h) cnt most rch M C (PPf Y w (w * h)) cc L V (Fof cs)) (pl := clAll G (cs)) (q0 := 0) (As := [.int (zI ((scF xs (i + 1))))]) (rest := []) hx hb hml hown hT hK (c_X5_limit l G md ma mb mc mt m1 m2 m3 m4 m5 m6 m7 th w h cnt most rch tl ((cs.length : Nat) : Int) M Y C T CA CB CN CG CS Z K (scF xs (i + 1)) hI.1 r1) kc_L_97 (by dsimp only; omega) (by dsimp only; omega) hP hD hS hA [0, 1, 2, 3, 4, 5, 6, 7, 8, 9, 10, 11] [12, 13, 14, 15, 16, 17, 18, 19, 20, 21, 22] rfl rfl rfl rfl (by decide) rfl rfl rfl rfl hl.1 rfl (Nat.le_of_ble_eq_true rfl) dL_law_385 (fun u8 H locs hok8 hP hD hS => ?_)
    try dsimp only at hP hD hok8
    try simp only [if_neg hcd] at hP hD
    have hP : zP G (((ol G oa (ov) :: xL G xx pg ik mx co pa cv ca cb ar ((cs).length : Int) w h (w * h) cnt most rch M C (PPf Y w (w * h)) cc L V (Fof cs)) ++ mdL G md ma mb mc mt m1 m2 m3 m4 m5 m6 m7 (cLim (scF xs (i + 1))) w h cnt most rch tl (cs.length : Int) M Y C T CA CB CN CG CS Z K) ++ clAll G (cs)) H := hP
    have hD : va_D A (((ol G oa (ov) :: xL G xx pg ik mx co pa cv ca cb ar ((cs).length : Int) w h (w * h) cnt most rch M C (PPf Y w (w * h)) cc L V (Fof cs)) ++ mdL G md ma mb mc mt m1 m2 m3 m4 m5 m6 m7 (cLim (scF xs (i + 1))) w h cnt most rch tl (cs.length : Int) M Y C T CA CB CN CG CS Z K) ++ clAll G (cs)) := hD
    refine lv_istore (lv' := [(6, .int (zI ((if (cLim (scF xs (i + 1))) = 0 then most else 0)))), (5, .int (zI ((cLim (scF xs (i + 1)))))), (0, .ref b), (1, .ref xx), (2, .ref md), (3, .ref oa), (4, .int (zI (i)))]) hx hb dL_law_388 hl (by decide) rfl (fun ls hl => ?_)
    refine lv_aload_n hx hb dL_law_390 rfl (lv_at hl 4 rfl) ?_
    refine z_callV (q0 := 0) (G := G) (As := []) (rest := []) hx hb hml hown hT hK (c_X5_thrown l G md ma mb mc mt m1 m2 m3 m4 m5 m6 m7 (cLim (scF xs (i + 1))) w h cnt most rch tl (cs.length : Int) M Y C T CA CB CN CG CS Z K) kc_L_81 (by dsimp only; omega) ⟨rfl, rfl⟩ (by dsimp only; omega) ((zP_left hP).sub [11, 12, 13, 14, 15, 16, 17, 18, 19, 20, 21, 22] rfl) rfl rfl rfl rfl hl.1 rfl (Nat.le_of_ble_eq_true rfl) dL_law_391 ?_
    refine lv_iload hx hb dL_law_394 (lv_at hl 1 rfl) ?_
    refine z_icmp_eq (tgt := 401) hx hb dL_law_396 (by decide) (by omega) (by omega) (fun _ => ?_) (fun h => absurd rfl h)
    refine lv_iload hx hb dL_law_401 (lv_at hl 1 rfl) ?_
    refine z_if_ne (tgt := 418) hx hb dL_law_403 (by decide) (by omega) (fun _ => ?_) (fun h => absurd h hcd)
    refine z_goto (tgt := 1231) hx hb dL_law_418 (by decide) ?_
    refine W.widen (k := cells + 8) (n := slots + 1000) (by dsimp only; omega) (by dsimp only; omega) ?_
    exact hn ov (cLim (scF xs (i + 1))) cnt most rch cc tl M C L V Y T CA CB CN CG CS Z K cs H locs ls (hI) (lv_sub hl [2, 3, 4, 5, 6] rfl) hP hD hS
set_option maxHeartbeats 4000000 in
set_option maxRecDepth 100000 in
theorem law_plate (hc : lawC p l R s m args c G A b Ls xs) (hi : 2 ≤ i ∧ i + 6 ≤ (Ls : Int)) (hI : lInv w h cnt most rch M C cc L V cs tl Y T CN CG CS K) (hl : lv_has ls 8 [(0, .ref b), (1, .ref xx), (2, .ref md), (3, .ref oa), (4, .int (zI i))]) (hP : zP G (lawW G oa xx pg ik mx co pa cv ca cb ar md ma mb mc mt m1 m2 m3 m4 m5 m6 m7 w h ov th cnt most rch cc tl M C L V Y T CA CB CN CG CS Z K cs) H) (hD : va_D A (lawW G oa xx pg ik mx co pa cv ca cb ar md ma mb mc mt m1 m2 m3 m4 m5 m6 m7 w h ov th cnt most rch cc tl M C L V Y T CA CB CN CG CS Z K cs)) (hS : va_S A s.heap H locs) (hcl : cells + 8 ≤ R.cells ∧ slots + 1000 ≤ R.slots) (hn : lawN p l e R s m args below meth c (cells + 8) (slots + 1000) Q G A b oa xx pg ik mx co pa cv ca cb ar md ma mb mc mt m1 m2 m3 m4 m5 m6 m7 i w h) : W p l e R s m args below meth c H locs cells slots Q (F0 m 421 ls []) := by
  obtain ⟨hx, hb, hml, hown, hT, hK, hXz, hN, hX, hbl, hst, hRf, hRl, hA, hbA, hLs⟩ := hc
  have hP : zP G (((ol G oa ov :: xL G xx pg ik mx co pa cv ca cb ar ((cs).length : Int) w h (w * h) cnt most rch M C (PPf Y w (w * h)) cc L V (Fof cs)) ++ mdL G md ma mb mc mt m1 m2 m3 m4 m5 m6 m7 th w h cnt most rch tl (cs.length : Int) M Y C T CA CB CN CG CS Z K) ++ clAll G cs) H := hP
  have hD : va_D A (((ol G oa ov :: xL G xx pg ik mx co pa cv ca cb ar ((cs).length : Int) w h (w * h) cnt most rch M C (PPf Y w (w * h)) cc L V (Fof cs)) ++ mdL G md ma mb mc mt m1 m2 m3 m4 m5 m6 m7 th w h cnt most rch tl (cs.length : Int) M Y C T CA CB CN CG CS Z K) ++ clAll G cs) := hD
  have r1 := scF_r xs (i + 1)
  have r2 := scF_r xs (i + 2)
  have r3 := scF_r xs (i + 3)
  have r4 := scF_r xs (i + 4)
  refine lv_aload_n hx hb dL_law_421 rfl (lv_at hl 1 rfl) ?_
  refine lv_aload_n hx hb dL_law_422 rfl (lv_at hl 0 rfl) ?_
  refine lv_iload hx hb dL_law_423 (lv_at hl 4 rfl) ?_
  refine z_iconst hx hb dL_law_425 ?_
  refine z_iadd hx hb dL_law_426 ?_
  refine z_sld hx hb hX hbl hbA hS ⟨by omega, by omega, by omega⟩ dL_law_427 ?_
  refine lv_aload_n hx hb dL_law_428 rfl (lv_at hl 0 rfl) ?_
  refine lv_iload hx hb dL_law_429 (lv_at hl 4 rfl) ?_
  refine z_iconst hx hb dL_law_431 ?_
  refine z_iadd hx hb dL_law_432 ?_
  refine z_sld hx hb hX hbl hbA hS ⟨by omega, by omega, by omega⟩ dL_law_433 ?_
  refine lv_aload_n hx hb dL_law_434 rfl (lv_at hl 0 rfl) ?_
  refine lv_iload hx hb dL_law_435 (lv_at hl 4 rfl) ?_
  refine z_iconst hx hb dL_law_437 ?_
  refine z_iadd hx hb dL_law_438 ?_
  refine z_sld hx hb hX hbl hbA hS ⟨by omega, by omega, by omega⟩ dL_law_439 ?_
  refine lv_aload_n hx hb dL_law_440 rfl (lv_at hl 0 rfl) ?_
  refine lv_iload hx hb dL_law_441 (lv_at hl 4 rfl) ?_
  refine z_iconst hx hb dL_law_443 ?_
  refine z_iadd hx hb dL_law_444 ?_
  refine z_sld hx hb hX hbl hbA hS ⟨by omega, by omega, by omega⟩ dL_law_445 ?_
  refine lv_aload_n hx hb dL_law_446 rfl (lv_at hl 3 rfl) ?_
  refine z_sH (G := G) (X := (ol G oa ov :: xL G xx pg ik mx co pa cv ca cb ar ((cs).length : Int) w h (w * h) cnt most rch M C (PPf Y w (w * h)) cc L V (Fof cs)) ++ mdL G md ma mb mc mt m1 m2 m3 m4 m5 m6 m7 th w h cnt most rch tl (cs.length : Int) M Y C T CA CB CN CG CS Z K) (cx := ol G oa ov :: xL G xx pg ik mx co pa cv ca cb ar ((cs).length : Int) w h (w * h) cnt most rch M C (PPf Y w (w * h)) cc L V (Fof cs)) (pl := clAll G cs) (As := [.ref xx, .int (zI ((scF xs (i + 1)))), .int (zI ((scF xs (i + 2)))), .int (zI ((scF xs (i + 3)))), .int (zI ((scF xs (i + 4)))), .ref oa]) (rest := []) hx hb hml hown hT hK (c_L_plate l hst G xx pg ik mx co pa cv ca cb ar ((cs.length : Nat) : Int) w h (w * h) cnt most rch M C (PPf Y w (w * h)) cc L V cs (scF xs (i + 1)) (scF xs (i + 2)) (scF xs (i + 3)) (scF xs (i + 4)) oa ov (lInv_pg hI) hI.2.2.1 (lInv_nx hI) hI.2.2.2.2.1 rfl r1 r2 r3 r4) kh_L_98 (by dsimp only; omega) (by dsimp only; omega) hP hD hS hA hXz hN [0, 1, 2, 3, 4, 5, 6, 7, 8, 9, 10] rfl rfl rfl hl.1 rfl (Nat.le_of_ble_eq_true rfl) dL_law_447 (fun u9 H1 locs1 hok9 hk9 hsub9 hP9 hD9 hS => ?_)
  have hcr : 0 ≤ (cPla (scF xs (i + 1)) (scF xs (i + 2)) (scF xs (i + 3)) (scF xs (i + 4)) cnt w h) ∧ (cPla (scF xs (i + 1)) (scF xs (i + 2)) (scF xs (i + 3)) (scF xs (i + 4)) cnt w h) ≤ 3 := by
    unfold cPla; (repeat' split) <;> omega
  try dsimp only at hP9 hD9 hok9
  by_cases hcd : (cPla (scF xs (i + 1)) (scF xs (i + 2)) (scF xs (i + 3)) (scF xs (i + 4)) cnt w h) = 0
  · skip
    rw [if_pos hcd] at hP9 hD9
    obtain ⟨hP, hD⟩ := va_joinP (X := (ol G oa ov :: xL G xx pg ik mx co pa cv ca cb ar ((cs).length : Int) w h (w * h) cnt most rch M C (PPf Y w (w * h)) cc L V (Fof cs)) ++ mdL G md ma mb mc mt m1 m2 m3 m4 m5 m6 m7 th w h cnt most rch tl (cs.length : Int) M Y C T CA CB CN CG CS Z K) (cx := ol G oa ov :: xL G xx pg ik mx co pa cv ca cb ar ((cs).length : Int) w h (w * h) cnt most rch M C (PPf Y w (w * h)) cc L V (Fof cs)) (pl := clAll G cs) (wr := mdL G md ma mb mc mt m1 m2 m3 m4 m5 m6 m7 th w h cnt most rch tl (cs.length : Int) M Y C T CA CB CN CG CS Z K) (rx := ol G oa ((zI ((if (scF xs (i + 4)) < 2 then (pW (PPf Y w (w * h)) (w * h) (scF xs (i + 1)) ((scF xs (i + 2)) + w * (scF xs (i + 3))) (if (scF xs (i + 4)) % 2 = 1 then (lendV w h rch (scF xs (i + 2)) (scF xs (i + 3)) (cdB M (PPf Y w (w * h)) (w * h) cnt w ((scF xs (i + 2)) + w * (scF xs (i + 3))))) else -1)) else bentV cc L V (pW (PPf Y w (w * h)) (w * h) (scF xs (i + 1)) ((scF xs (i + 2)) + w * (scF xs (i + 3))) (if (scF xs (i + 4)) % 2 = 1 then (lendV w h rch (scF xs (i + 2)) (scF xs (i + 3)) (cdB M (PPf Y w (w * h)) (w * h) cnt w ((scF xs (i + 2)) + w * (scF xs (i + 3))))) else -1))))).toInt) :: xL G xx pg ik mx co pa cv ca cb ar ((cs).length : Int) w h (w * h) cnt most rch M C (PPf Y w (w * h)) cc L V (Fof cs)) (pl1 := clAll G (cs)) hP hD [0, 1, 2, 3, 4, 5, 6, 7, 8, 9, 10] [11, 12, 13, 14, 15, 16, 17, 18, 19, 20, 21, 22] rfl rfl rfl (by decide) hk9 hsub9 hP9 hD9
    refine lv_istore (lv' := [(5, .int (zI ((cPla (scF xs (i + 1)) (scF xs (i + 2)) (scF xs (i + 3)) (scF xs (i + 4)) cnt w h)))), (0, .ref b), (1, .ref xx), (2, .ref md), (3, .ref oa), (4, .int (zI (i)))]) hx hb dL_law_450 hl (by decide) rfl (fun ls hl => ?_)
    refine lv_aload_n hx hb dL_law_452 rfl (lv_at hl 3 rfl) ?_
    refine lv_aload_n hx hb dL_law_453 rfl (lv_at hl 1 rfl) ?_
    refine lv_iload hx hb dL_law_454 (lv_at hl 5 rfl) ?_
    refine z_iconst hx hb dL_law_456 ?_
    refine z_iadd hx hb dL_law_457 ?_
    refine z_sld hx hb hX hbl hbA hS ⟨by omega, by omega, by omega⟩ dL_law_458 ?_
    refine lv_aload_n hx hb dL_law_459 rfl (lv_at hl 1 rfl) ?_
    refine lv_iload hx hb dL_law_460 (lv_at hl 5 rfl) ?_
    refine z_iconst hx hb dL_law_462 ?_
    refine z_iadd hx hb dL_law_463 ?_
    refine z_sld hx hb hX hbl hbA hS ⟨by omega, by omega, by omega⟩ dL_law_464 ?_
    refine lv_aload_n hx hb dL_law_465 rfl (lv_at hl 1 rfl) ?_
    refine lv_iload hx hb dL_law_466 (lv_at hl 5 rfl) ?_
    refine z_iconst hx hb dL_law_468 ?_
    refine z_iadd hx hb dL_law_469 ?_
    refine z_sld hx hb hX hbl hbA hS ⟨by omega, by omega, by omega⟩ dL_law_470 ?_
    refine lv_aload_n hx hb dL_law_471 rfl (lv_at hl 1 rfl) ?_
    refine lv_iload hx hb dL_law_472 (lv_at hl 5 rfl) ?_
    refine z_iconst hx hb dL_law_474 ?_
    refine z_iadd hx hb dL_law_475 ?_
    refine z_sld hx hb hX hbl hbA hS ⟨by omega, by omega, by omega⟩ dL_law_476 ?_
    refine z_wVi (G := G) (X := mdL G md ma mb mc mt m1 m2 m3 m4 m5 m6 m7 th w h cnt most rch tl (cs.length : Int) M Y C T CA CB CN CG CS Z K ++ (ol G oa ((zI ((if (scF xs (i + 4)) < 2 then (pW (PPf Y w (w * h)) (w * h) (scF xs (i + 1)) ((scF xs (i + 2)) + w * (scF xs (i + 3))) (if (scF xs (i + 4)) % 2 = 1 then (lendV w h rch (scF xs (i + 2)) (scF xs (i + 3)) (cdB M (PPf Y w (w * h)) (w * h) cnt w ((scF xs (i + 2)) + w * (scF xs (i + 3))))) else -1)) else bentV cc L V (pW (PPf Y w (w * h)) (w * h) (scF xs (i + 1)) ((scF xs (i + 2)) + w * (scF xs (i + 3))) (if (scF xs (i + 4)) % 2 = 1 then (lendV w h rch (scF xs (i + 2)) (scF xs (i + 3)) (cdB M (PPf Y w (w * h)) (w * h) cnt w ((scF xs (i + 2)) + w * (scF xs (i + 3))))) else -1))))).toInt) :: xL G xx pg ik mx co pa cv ca cb ar ((cs).length : Int) w h (w * h) cnt most rch M C (PPf Y w (w * h)) cc L V (Fof cs))) (wc := mdL G md ma mb mc mt m1 m2 m3 m4 m5 m6 m7 th w h cnt most rch tl (cs.length : Int) M Y C T CA CB CN CG CS Z K) (wr := ol G oa ((zI ((if (scF xs (i + 4)) < 2 then (pW (PPf Y w (w * h)) (w * h) (scF xs (i + 1)) ((scF xs (i + 2)) + w * (scF xs (i + 3))) (if (scF xs (i + 4)) % 2 = 1 then (lendV w h rch (scF xs (i + 2)) (scF xs (i + 3)) (cdB M (PPf Y w (w * h)) (w * h) cnt w ((scF xs (i + 2)) + w * (scF xs (i + 3))))) else -1)) else bentV cc L V (pW (PPf Y w (w * h)) (w * h) (scF xs (i + 1)) ((scF xs (i + 2)) + w * (scF xs (i + 3))) (if (scF xs (i + 4)) % 2 = 1 then (lendV w h rch (scF xs (i + 2)) (scF xs (i + 3)) (cdB M (PPf Y w (w * h)) (w * h) cnt w ((scF xs (i + 2)) + w * (scF xs (i + 3))))) else -1))))).toInt) :: xL G xx pg ik mx co pa cv ca cb ar ((cs).length : Int) w h (w * h) cnt most rch M C (PPf Y w (w * h)) cc L V (Fof cs)) (pl := clAll G (cs)) (q0 := 0) (As := [.int (zI ((scF xs (i + 1)))), .int (zI ((scF xs (i + 2)))), .int (zI ((scF xs (i + 3)))), .int (zI ((scF xs (i + 4))))]) (rest := []) hx hb hml hown hT hK (c_X5_plate l G md ma mb mc mt m1 m2 m3 m4 m5 m6 m7 th w h cnt most rch tl ((cs.length : Nat) : Int) M Y C T CA CB CN CG CS Z K (scF xs (i + 1)) (scF xs (i + 2)) (scF xs (i + 3)) (scF xs (i + 4)) hI.1 r1 r2 r3 r4) kc_L_100 (by dsimp only; omega) (by dsimp only; omega) hP hD hS hA [0, 1, 2, 3, 4, 5, 6, 7, 8, 9, 10, 11] [12, 13, 14, 15, 16, 17, 18, 19, 20, 21, 22] rfl rfl rfl rfl (by decide) rfl rfl rfl rfl hl.1 rfl (Nat.le_of_ble_eq_true rfl) dL_law_477 (fun u8 H locs hok8 hP hD hS => ?_)
    try dsimp only at hP hD hok8
    try simp only [if_pos hcd] at hP hD
    have hP : zP G (((ol G oa ((zI ((if (scF xs (i + 4)) < 2 then (pW (PPf Y w (w * h)) (w * h) (scF xs (i + 1)) ((scF xs (i + 2)) + w * (scF xs (i + 3))) (if (scF xs (i + 4)) % 2 = 1 then (lendV w h rch (scF xs (i + 2)) (scF xs (i + 3)) (cdB M (PPf Y w (w * h)) (w * h) cnt w ((scF xs (i + 2)) + w * (scF xs (i + 3))))) else -1)) else bentV cc L V (pW (PPf Y w (w * h)) (w * h) (scF xs (i + 1)) ((scF xs (i + 2)) + w * (scF xs (i + 3))) (if (scF xs (i + 4)) % 2 = 1 then (lendV w h rch (scF xs (i + 2)) (scF xs (i + 3)) (cdB M (PPf Y w (w * h)) (w * h) cnt w ((scF xs (i + 2)) + w * (scF xs (i + 3))))) else -1))))).toInt) :: xL G xx pg ik mx co pa cv ca cb ar ((cs).length : Int) w h (w * h) cnt most rch M C (PPf Y w (w * h)) cc L V (Fof cs)) ++ mdL G md ma mb mc mt m1 m2 m3 m4 m5 m6 m7 (cPla (scF xs (i + 1)) (scF xs (i + 2)) (scF xs (i + 3)) (scF xs (i + 4)) cnt w h) w h cnt most rch tl (cs.length : Int) M Y C T CA CB CN CG CS Z K) ++ clAll G (cs)) H := hP
    have hD : va_D A (((ol G oa ((zI ((if (scF xs (i + 4)) < 2 then (pW (PPf Y w (w * h)) (w * h) (scF xs (i + 1)) ((scF xs (i + 2)) + w * (scF xs (i + 3))) (if (scF xs (i + 4)) % 2 = 1 then (lendV w h rch (scF xs (i + 2)) (scF xs (i + 3)) (cdB M (PPf Y w (w * h)) (w * h) cnt w ((scF xs (i + 2)) + w * (scF xs (i + 3))))) else -1)) else bentV cc L V (pW (PPf Y w (w * h)) (w * h) (scF xs (i + 1)) ((scF xs (i + 2)) + w * (scF xs (i + 3))) (if (scF xs (i + 4)) % 2 = 1 then (lendV w h rch (scF xs (i + 2)) (scF xs (i + 3)) (cdB M (PPf Y w (w * h)) (w * h) cnt w ((scF xs (i + 2)) + w * (scF xs (i + 3))))) else -1))))).toInt) :: xL G xx pg ik mx co pa cv ca cb ar ((cs).length : Int) w h (w * h) cnt most rch M C (PPf Y w (w * h)) cc L V (Fof cs)) ++ mdL G md ma mb mc mt m1 m2 m3 m4 m5 m6 m7 (cPla (scF xs (i + 1)) (scF xs (i + 2)) (scF xs (i + 3)) (scF xs (i + 4)) cnt w h) w h cnt most rch tl (cs.length : Int) M Y C T CA CB CN CG CS Z K) ++ clAll G (cs)) := hD
    refine lv_istore (lv' := [(6, .int (zI ((if (cPla (scF xs (i + 1)) (scF xs (i + 2)) (scF xs (i + 3)) (scF xs (i + 4)) cnt w h) = 0 then (if (scF xs (i + 4)) < 2 then (pW (PPf Y w (w * h)) (w * h) (scF xs (i + 1)) ((scF xs (i + 2)) + w * (scF xs (i + 3))) (if (scF xs (i + 4)) % 2 = 1 then (lendV w h rch (scF xs (i + 2)) (scF xs (i + 3)) (cdB M (PPf Y w (w * h)) (w * h) cnt w ((scF xs (i + 2)) + w * (scF xs (i + 3))))) else -1)) else tcV T (pW (PPf Y w (w * h)) (w * h) (scF xs (i + 1)) ((scF xs (i + 2)) + w * (scF xs (i + 3))) (if (scF xs (i + 4)) % 2 = 1 then (lendV w h rch (scF xs (i + 2)) (scF xs (i + 3)) (cdB M (PPf Y w (w * h)) (w * h) cnt w ((scF xs (i + 2)) + w * (scF xs (i + 3))))) else -1))) else 0)))), (5, .int (zI ((cPla (scF xs (i + 1)) (scF xs (i + 2)) (scF xs (i + 3)) (scF xs (i + 4)) cnt w h)))), (0, .ref b), (1, .ref xx), (2, .ref md), (3, .ref oa), (4, .int (zI (i)))]) hx hb dL_law_480 hl (by decide) rfl (fun ls hl => ?_)
    refine lv_aload_n hx hb dL_law_482 rfl (lv_at hl 4 rfl) ?_
    refine z_callV (q0 := 0) (G := G) (As := []) (rest := []) hx hb hml hown hT hK (c_X5_thrown l G md ma mb mc mt m1 m2 m3 m4 m5 m6 m7 (cPla (scF xs (i + 1)) (scF xs (i + 2)) (scF xs (i + 3)) (scF xs (i + 4)) cnt w h) w h cnt most rch tl (cs.length : Int) M Y C T CA CB CN CG CS Z K) kc_L_81 (by dsimp only; omega) ⟨rfl, rfl⟩ (by dsimp only; omega) ((zP_left hP).sub [11, 12, 13, 14, 15, 16, 17, 18, 19, 20, 21, 22] rfl) rfl rfl rfl rfl hl.1 rfl (Nat.le_of_ble_eq_true rfl) dL_law_483 ?_
    refine lv_iload hx hb dL_law_486 (lv_at hl 1 rfl) ?_
    refine z_icmp_eq (tgt := 493) hx hb dL_law_488 (by decide) (by omega) (by omega) (fun _ => ?_) (fun h => absurd rfl h)
    refine lv_iload hx hb dL_law_493 (lv_at hl 1 rfl) ?_
    refine z_if_ne (tgt := 510) hx hb dL_law_495 (by decide) (by omega) (fun h => absurd hcd h) (fun _ => ?_)
    refine lv_aload_n hx hb dL_law_498 rfl (lv_at hl 5 rfl) ?_
    refine z_iconst hx hb dL_law_499 ?_
    refine z_lald hx hb hK hP 0 rfl dL_law_500 ?_
    refine lv_iload hx hb dL_law_501 (lv_at hl 0 rfl) ?_
    refine z_i2lw hx hb dL_law_503 ?_
    refine z_lcmp0 hx hb (by rw [if_pos hcd, pla_eq hI (pW_b (lInv_pg hI).2.2.2.2.2.2.2.2 _ _ _ _)]) dL_law_504 ?_
    refine z_if_eq (tgt := 510) hx hb dL_law_505 (by decide) (by omega) (fun _ => ?_) (fun h => absurd rfl h)
    refine z_goto (tgt := 1231) hx hb dL_law_510 (by decide) ?_
    refine W.widen (k := cells + 8) (n := slots + 1000) (by dsimp only; omega) (by dsimp only; omega) ?_
    exact hn ((zI ((if (scF xs (i + 4)) < 2 then (pW (PPf Y w (w * h)) (w * h) (scF xs (i + 1)) ((scF xs (i + 2)) + w * (scF xs (i + 3))) (if (scF xs (i + 4)) % 2 = 1 then (lendV w h rch (scF xs (i + 2)) (scF xs (i + 3)) (cdB M (PPf Y w (w * h)) (w * h) cnt w ((scF xs (i + 2)) + w * (scF xs (i + 3))))) else -1)) else bentV cc L V (pW (PPf Y w (w * h)) (w * h) (scF xs (i + 1)) ((scF xs (i + 2)) + w * (scF xs (i + 3))) (if (scF xs (i + 4)) % 2 = 1 then (lendV w h rch (scF xs (i + 2)) (scF xs (i + 3)) (cdB M (PPf Y w (w * h)) (w * h) cnt w ((scF xs (i + 2)) + w * (scF xs (i + 3))))) else -1))))).toInt) (cPla (scF xs (i + 1)) (scF xs (i + 2)) (scF xs (i + 3)) (scF xs (i + 4)) cnt w h) cnt most rch cc tl M C L V Y T CA CB CN CG CS Z K cs H locs ls (hI) (lv_sub hl [2, 3, 4, 5, 6] rfl) hP hD hS
  · skip
    rw [if_neg hcd] at hP9 hD9
    obtain ⟨hP, hD⟩ := va_joinP (X := (ol G oa ov :: xL G xx pg ik mx co pa cv ca cb ar ((cs).length : Int) w h (w * h) cnt most rch M C (PPf Y w (w * h)) cc L V (Fof cs)) ++ mdL G md ma mb mc mt m1 m2 m3 m4 m5 m6 m7 th w h cnt most rch tl (cs.length : Int) M Y C T CA CB CN CG CS Z K) (cx := ol G oa ov :: xL G xx pg ik mx co pa cv ca cb ar ((cs).length : Int) w h (w * h) cnt most rch M C (PPf Y w (w * h)) cc L V (Fof cs)) (pl := clAll G cs) (wr := mdL G md ma mb mc mt m1 m2 m3 m4 m5 m6 m7 th w h cnt most rch tl (cs.length : Int) M Y C T CA CB CN CG CS Z K) (rx := ol G oa (ov) :: xL G xx pg ik mx co pa cv ca cb ar ((cs).length : Int) w h (w * h) cnt most rch M C (PPf Y w (w * h)) cc L V (Fof cs)) (pl1 := clAll G (cs)) hP hD [0, 1, 2, 3, 4, 5, 6, 7, 8, 9, 10] [11, 12, 13, 14, 15, 16, 17, 18, 19, 20, 21, 22] rfl rfl rfl (by decide) hk9 hsub9 hP9 hD9
    refine lv_istore (lv' := [(5, .int (zI ((cPla (scF xs (i + 1)) (scF xs (i + 2)) (scF xs (i + 3)) (scF xs (i + 4)) cnt w h)))), (0, .ref b), (1, .ref xx), (2, .ref md), (3, .ref oa), (4, .int (zI (i)))]) hx hb dL_law_450 hl (by decide) rfl (fun ls hl => ?_)
    refine lv_aload_n hx hb dL_law_452 rfl (lv_at hl 3 rfl) ?_
    refine lv_aload_n hx hb dL_law_453 rfl (lv_at hl 1 rfl) ?_
    refine lv_iload hx hb dL_law_454 (lv_at hl 5 rfl) ?_
    refine z_iconst hx hb dL_law_456 ?_
    refine z_iadd hx hb dL_law_457 ?_
    refine z_sld hx hb hX hbl hbA hS ⟨by omega, by omega, by omega⟩ dL_law_458 ?_
    refine lv_aload_n hx hb dL_law_459 rfl (lv_at hl 1 rfl) ?_
    refine lv_iload hx hb dL_law_460 (lv_at hl 5 rfl) ?_
    refine z_iconst hx hb dL_law_462 ?_
    refine z_iadd hx hb dL_law_463 ?_
    refine z_sld hx hb hX hbl hbA hS ⟨by omega, by omega, by omega⟩ dL_law_464 ?_
    refine lv_aload_n hx hb dL_law_465 rfl (lv_at hl 1 rfl) ?_
    refine lv_iload hx hb dL_law_466 (lv_at hl 5 rfl) ?_
    refine z_iconst hx hb dL_law_468 ?_
    refine z_iadd hx hb dL_law_469 ?_
    refine z_sld hx hb hX hbl hbA hS ⟨by omega, by omega, by omega⟩ dL_law_470 ?_
    refine lv_aload_n hx hb dL_law_471 rfl (lv_at hl 1 rfl) ?_
    refine lv_iload hx hb dL_law_472 (lv_at hl 5 rfl) ?_
    refine z_iconst hx hb dL_law_474 ?_
    refine z_iadd hx hb dL_law_475 ?_
    refine z_sld hx hb hX hbl hbA hS ⟨by omega, by omega, by omega⟩ dL_law_476 ?_
    refine z_wVi (G := G) (X := mdL G md ma mb mc mt m1 m2 m3 m4 m5 m6 m7 th w h cnt most rch tl (cs.length : Int) M Y C T CA CB CN CG CS Z K ++ (ol G oa (ov) :: xL G xx pg ik mx co pa cv ca cb ar ((cs).length : Int) w h (w * h) cnt most rch M C (PPf Y w (w * h)) cc L V (Fof cs))) (wc := mdL G md ma mb mc mt m1 m2 m3 m4 m5 m6 m7 th w h cnt most rch tl (cs.length : Int) M Y C T CA CB CN CG CS Z K) (wr := ol G oa (ov) :: xL G xx pg ik mx co pa cv ca cb ar ((cs).length : Int) w h (w * h) cnt most rch M C (PPf Y w (w * h)) cc L V (Fof cs)) (pl := clAll G (cs)) (q0 := 0) (As := [.int (zI ((scF xs (i + 1)))), .int (zI ((scF xs (i + 2)))), .int (zI ((scF xs (i + 3)))), .int (zI ((scF xs (i + 4))))]) (rest := []) hx hb hml hown hT hK (c_X5_plate l G md ma mb mc mt m1 m2 m3 m4 m5 m6 m7 th w h cnt most rch tl ((cs.length : Nat) : Int) M Y C T CA CB CN CG CS Z K (scF xs (i + 1)) (scF xs (i + 2)) (scF xs (i + 3)) (scF xs (i + 4)) hI.1 r1 r2 r3 r4) kc_L_100 (by dsimp only; omega) (by dsimp only; omega) hP hD hS hA [0, 1, 2, 3, 4, 5, 6, 7, 8, 9, 10, 11] [12, 13, 14, 15, 16, 17, 18, 19, 20, 21, 22] rfl rfl rfl rfl (by decide) rfl rfl rfl rfl hl.1 rfl (Nat.le_of_ble_eq_true rfl) dL_law_477 (fun u8 H locs hok8 hP hD hS => ?_)
    try dsimp only at hP hD hok8
    try simp only [if_neg hcd] at hP hD
    have hP : zP G (((ol G oa (ov) :: xL G xx pg ik mx co pa cv ca cb ar ((cs).length : Int) w h (w * h) cnt most rch M C (PPf Y w (w * h)) cc L V (Fof cs)) ++ mdL G md ma mb mc mt m1 m2 m3 m4 m5 m6 m7 (cPla (scF xs (i + 1)) (scF xs (i + 2)) (scF xs (i + 3)) (scF xs (i + 4)) cnt w h) w h cnt most rch tl (cs.length : Int) M Y C T CA CB CN CG CS Z K) ++ clAll G (cs)) H := hP
    have hD : va_D A (((ol G oa (ov) :: xL G xx pg ik mx co pa cv ca cb ar ((cs).length : Int) w h (w * h) cnt most rch M C (PPf Y w (w * h)) cc L V (Fof cs)) ++ mdL G md ma mb mc mt m1 m2 m3 m4 m5 m6 m7 (cPla (scF xs (i + 1)) (scF xs (i + 2)) (scF xs (i + 3)) (scF xs (i + 4)) cnt w h) w h cnt most rch tl (cs.length : Int) M Y C T CA CB CN CG CS Z K) ++ clAll G (cs)) := hD
    refine lv_istore (lv' := [(6, .int (zI ((if (cPla (scF xs (i + 1)) (scF xs (i + 2)) (scF xs (i + 3)) (scF xs (i + 4)) cnt w h) = 0 then (if (scF xs (i + 4)) < 2 then (pW (PPf Y w (w * h)) (w * h) (scF xs (i + 1)) ((scF xs (i + 2)) + w * (scF xs (i + 3))) (if (scF xs (i + 4)) % 2 = 1 then (lendV w h rch (scF xs (i + 2)) (scF xs (i + 3)) (cdB M (PPf Y w (w * h)) (w * h) cnt w ((scF xs (i + 2)) + w * (scF xs (i + 3))))) else -1)) else tcV T (pW (PPf Y w (w * h)) (w * h) (scF xs (i + 1)) ((scF xs (i + 2)) + w * (scF xs (i + 3))) (if (scF xs (i + 4)) % 2 = 1 then (lendV w h rch (scF xs (i + 2)) (scF xs (i + 3)) (cdB M (PPf Y w (w * h)) (w * h) cnt w ((scF xs (i + 2)) + w * (scF xs (i + 3))))) else -1))) else 0)))), (5, .int (zI ((cPla (scF xs (i + 1)) (scF xs (i + 2)) (scF xs (i + 3)) (scF xs (i + 4)) cnt w h)))), (0, .ref b), (1, .ref xx), (2, .ref md), (3, .ref oa), (4, .int (zI (i)))]) hx hb dL_law_480 hl (by decide) rfl (fun ls hl => ?_)
    refine lv_aload_n hx hb dL_law_482 rfl (lv_at hl 4 rfl) ?_
    refine z_callV (q0 := 0) (G := G) (As := []) (rest := []) hx hb hml hown hT hK (c_X5_thrown l G md ma mb mc mt m1 m2 m3 m4 m5 m6 m7 (cPla (scF xs (i + 1)) (scF xs (i + 2)) (scF xs (i + 3)) (scF xs (i + 4)) cnt w h) w h cnt most rch tl (cs.length : Int) M Y C T CA CB CN CG CS Z K) kc_L_81 (by dsimp only; omega) ⟨rfl, rfl⟩ (by dsimp only; omega) ((zP_left hP).sub [11, 12, 13, 14, 15, 16, 17, 18, 19, 20, 21, 22] rfl) rfl rfl rfl rfl hl.1 rfl (Nat.le_of_ble_eq_true rfl) dL_law_483 ?_
    refine lv_iload hx hb dL_law_486 (lv_at hl 1 rfl) ?_
    refine z_icmp_eq (tgt := 493) hx hb dL_law_488 (by decide) (by omega) (by omega) (fun _ => ?_) (fun h => absurd rfl h)
    refine lv_iload hx hb dL_law_493 (lv_at hl 1 rfl) ?_
    refine z_if_ne (tgt := 510) hx hb dL_law_495 (by decide) (by omega) (fun _ => ?_) (fun h => absurd h hcd)
    refine z_goto (tgt := 1231) hx hb dL_law_510 (by decide) ?_
    refine W.widen (k := cells + 8) (n := slots + 1000) (by dsimp only; omega) (by dsimp only; omega) ?_
    exact hn ov (cPla (scF xs (i + 1)) (scF xs (i + 2)) (scF xs (i + 3)) (scF xs (i + 4)) cnt w h) cnt most rch cc tl M C L V Y T CA CB CN CG CS Z K cs H locs ls (hI) (lv_sub hl [2, 3, 4, 5, 6] rfl) hP hD hS
set_option maxHeartbeats 4000000 in
set_option maxRecDepth 100000 in
theorem law_seen (hc : lawC p l R s m args c G A b Ls xs) (hi : 2 ≤ i ∧ i + 6 ≤ (Ls : Int)) (hI : lInv w h cnt most rch M C cc L V cs tl Y T CN CG CS K) (hl : lv_has ls 8 [(0, .ref b), (1, .ref xx), (2, .ref md), (3, .ref oa), (4, .int (zI i))]) (hP : zP G (lawW G oa xx pg ik mx co pa cv ca cb ar md ma mb mc mt m1 m2 m3 m4 m5 m6 m7 w h ov th cnt most rch cc tl M C L V Y T CA CB CN CG CS Z K cs) H) (hD : va_D A (lawW G oa xx pg ik mx co pa cv ca cb ar md ma mb mc mt m1 m2 m3 m4 m5 m6 m7 w h ov th cnt most rch cc tl M C L V Y T CA CB CN CG CS Z K cs)) (hS : va_S A s.heap H locs) (hcl : cells + 8 ≤ R.cells ∧ slots + 1000 ≤ R.slots) (hn : lawN p l e R s m args below meth c (cells + 8) (slots + 1000) Q G A b oa xx pg ik mx co pa cv ca cb ar md ma mb mc mt m1 m2 m3 m4 m5 m6 m7 i w h) : W p l e R s m args below meth c H locs cells slots Q (F0 m 513 ls []) := by
  obtain ⟨hx, hb, hml, hown, hT, hK, hXz, hN, hX, hbl, hst, hRf, hRl, hA, hbA, hLs⟩ := hc
  have hP : zP G (((ol G oa ov :: xL G xx pg ik mx co pa cv ca cb ar ((cs).length : Int) w h (w * h) cnt most rch M C (PPf Y w (w * h)) cc L V (Fof cs)) ++ mdL G md ma mb mc mt m1 m2 m3 m4 m5 m6 m7 th w h cnt most rch tl (cs.length : Int) M Y C T CA CB CN CG CS Z K) ++ clAll G cs) H := hP
  have hD : va_D A (((ol G oa ov :: xL G xx pg ik mx co pa cv ca cb ar ((cs).length : Int) w h (w * h) cnt most rch M C (PPf Y w (w * h)) cc L V (Fof cs)) ++ mdL G md ma mb mc mt m1 m2 m3 m4 m5 m6 m7 th w h cnt most rch tl (cs.length : Int) M Y C T CA CB CN CG CS Z K) ++ clAll G cs) := hD
  have r1 := scF_r xs (i + 1)
  have r2 := scF_r xs (i + 2)
  have r3 := scF_r xs (i + 3)
  have r4 := scF_r xs (i + 4)
  refine lv_aload_n hx hb dL_law_513 rfl (lv_at hl 1 rfl) ?_
  refine lv_aload_n hx hb dL_law_514 rfl (lv_at hl 0 rfl) ?_
  refine lv_iload hx hb dL_law_515 (lv_at hl 4 rfl) ?_
  refine z_iconst hx hb dL_law_517 ?_
  refine z_iadd hx hb dL_law_518 ?_
  refine z_sld hx hb hX hbl hbA hS ⟨by omega, by omega, by omega⟩ dL_law_519 ?_
  refine lv_aload_n hx hb dL_law_520 rfl (lv_at hl 0 rfl) ?_
  refine lv_iload hx hb dL_law_521 (lv_at hl 4 rfl) ?_
  refine z_iconst hx hb dL_law_523 ?_
  refine z_iadd hx hb dL_law_524 ?_
  refine z_sld hx hb hX hbl hbA hS ⟨by omega, by omega, by omega⟩ dL_law_525 ?_
  refine lv_aload_n hx hb dL_law_526 rfl (lv_at hl 0 rfl) ?_
  refine lv_iload hx hb dL_law_527 (lv_at hl 4 rfl) ?_
  refine z_iconst hx hb dL_law_529 ?_
  refine z_iadd hx hb dL_law_530 ?_
  refine z_sld hx hb hX hbl hbA hS ⟨by omega, by omega, by omega⟩ dL_law_531 ?_
  refine lv_aload_n hx hb dL_law_532 rfl (lv_at hl 0 rfl) ?_
  refine lv_iload hx hb dL_law_533 (lv_at hl 4 rfl) ?_
  refine z_iconst hx hb dL_law_535 ?_
  refine z_iadd hx hb dL_law_536 ?_
  refine z_sld hx hb hX hbl hbA hS ⟨by omega, by omega, by omega⟩ dL_law_537 ?_
  refine z_ne0 hx hb (scF_r _ _) dL_law_538 dL_law_541 dL_law_542 dL_law_545 ?_
  refine lv_aload_n hx hb dL_law_546 rfl (lv_at hl 3 rfl) ?_
  refine z_sH (G := G) (X := (ol G oa ov :: xL G xx pg ik mx co pa cv ca cb ar ((cs).length : Int) w h (w * h) cnt most rch M C (PPf Y w (w * h)) cc L V (Fof cs)) ++ mdL G md ma mb mc mt m1 m2 m3 m4 m5 m6 m7 th w h cnt most rch tl (cs.length : Int) M Y C T CA CB CN CG CS Z K) (cx := ol G oa ov :: xL G xx pg ik mx co pa cv ca cb ar ((cs).length : Int) w h (w * h) cnt most rch M C (PPf Y w (w * h)) cc L V (Fof cs)) (pl := clAll G cs) (As := [.ref xx, .int (zI ((scF xs (i + 1)))), .int (zI ((scF xs (i + 2)))), .int (zI ((scF xs (i + 3)))), .int (zI ((if scF xs (i + 4) = 0 then 0 else 1))), .ref oa]) (rest := []) hx hb hml hown hT hK (c_L_seen l hst G xx pg ik mx co pa cv ca cb ar ((cs.length : Nat) : Int) w h (w * h) cnt most rch M C (PPf Y w (w * h)) cc L V cs (scF xs (i + 1)) (scF xs (i + 2)) (scF xs (i + 3)) (if scF xs (i + 4) = 0 then 0 else 1) oa ov (lInv_pg hI) hI.2.2.1 (lInv_nx hI) hI.2.2.2.2.1 rfl r1 r2 r3 (z01 _)) kh_L_101 (by dsimp only; omega) (by dsimp only; omega) hP hD hS hA hXz hN [0, 1, 2, 3, 4, 5, 6, 7, 8, 9, 10] rfl rfl rfl hl.1 rfl (Nat.le_of_ble_eq_true rfl) dL_law_547 (fun u9 H1 locs1 hok9 hk9 hsub9 hP9 hD9 hS => ?_)
  have hcr : 0 ≤ (cSee (scF xs (i + 1)) (scF xs (i + 2)) (scF xs (i + 3)) w h) ∧ (cSee (scF xs (i + 1)) (scF xs (i + 2)) (scF xs (i + 3)) w h) ≤ 3 := by
    unfold cSee; (repeat' split) <;> omega
  try dsimp only at hP9 hD9 hok9
  by_cases hcd : (cSee (scF xs (i + 1)) (scF xs (i + 2)) (scF xs (i + 3)) w h) = 0
  · skip
    rw [if_pos hcd] at hP9 hD9
    obtain ⟨hP, hD⟩ := va_joinP (X := (ol G oa ov :: xL G xx pg ik mx co pa cv ca cb ar ((cs).length : Int) w h (w * h) cnt most rch M C (PPf Y w (w * h)) cc L V (Fof cs)) ++ mdL G md ma mb mc mt m1 m2 m3 m4 m5 m6 m7 th w h cnt most rch tl (cs.length : Int) M Y C T CA CB CN CG CS Z K) (cx := ol G oa ov :: xL G xx pg ik mx co pa cv ca cb ar ((cs).length : Int) w h (w * h) cnt most rch M C (PPf Y w (w * h)) cc L V (Fof cs)) (pl := clAll G cs) (wr := mdL G md ma mb mc mt m1 m2 m3 m4 m5 m6 m7 th w h cnt most rch tl (cs.length : Int) M Y C T CA CB CN CG CS Z K) (rx := ol G oa ((zI ((bandV M (PPf Y w (w * h)) (w * h) cnt (scF xs (i + 3)) ((scF xs (i + 1)) + w * (scF xs (i + 2))) (if (if (scF xs (i + 4)) = 0 then (0 : Int) else 1) = 0 then -1 else (lendV w h rch (scF xs (i + 1)) (scF xs (i + 2)) (cdB M (PPf Y w (w * h)) (w * h) cnt w ((scF xs (i + 1)) + w * (scF xs (i + 2))))))))).toInt) :: xL G xx pg ik mx co pa cv ca cb ar ((cs).length : Int) w h (w * h) cnt most rch M C (PPf Y w (w * h)) cc L V (Fof cs)) (pl1 := clAll G (cs)) hP hD [0, 1, 2, 3, 4, 5, 6, 7, 8, 9, 10] [11, 12, 13, 14, 15, 16, 17, 18, 19, 20, 21, 22] rfl rfl rfl (by decide) hk9 hsub9 hP9 hD9
    refine lv_istore (lv' := [(5, .int (zI ((cSee (scF xs (i + 1)) (scF xs (i + 2)) (scF xs (i + 3)) w h)))), (0, .ref b), (1, .ref xx), (2, .ref md), (3, .ref oa), (4, .int (zI (i)))]) hx hb dL_law_550 hl (by decide) rfl (fun ls hl => ?_)
    refine lv_aload_n hx hb dL_law_552 rfl (lv_at hl 3 rfl) ?_
    refine lv_aload_n hx hb dL_law_553 rfl (lv_at hl 1 rfl) ?_
    refine lv_iload hx hb dL_law_554 (lv_at hl 5 rfl) ?_
    refine z_iconst hx hb dL_law_556 ?_
    refine z_iadd hx hb dL_law_557 ?_
    refine z_sld hx hb hX hbl hbA hS ⟨by omega, by omega, by omega⟩ dL_law_558 ?_
    refine lv_aload_n hx hb dL_law_559 rfl (lv_at hl 1 rfl) ?_
    refine lv_iload hx hb dL_law_560 (lv_at hl 5 rfl) ?_
    refine z_iconst hx hb dL_law_562 ?_
    refine z_iadd hx hb dL_law_563 ?_
    refine z_sld hx hb hX hbl hbA hS ⟨by omega, by omega, by omega⟩ dL_law_564 ?_
    refine lv_aload_n hx hb dL_law_565 rfl (lv_at hl 1 rfl) ?_
    refine lv_iload hx hb dL_law_566 (lv_at hl 5 rfl) ?_
    refine z_iconst hx hb dL_law_568 ?_
    refine z_iadd hx hb dL_law_569 ?_
    refine z_sld hx hb hX hbl hbA hS ⟨by omega, by omega, by omega⟩ dL_law_570 ?_
    refine lv_aload_n hx hb dL_law_571 rfl (lv_at hl 1 rfl) ?_
    refine lv_iload hx hb dL_law_572 (lv_at hl 5 rfl) ?_
    refine z_iconst hx hb dL_law_574 ?_
    refine z_iadd hx hb dL_law_575 ?_
    refine z_sld hx hb hX hbl hbA hS ⟨by omega, by omega, by omega⟩ dL_law_576 ?_
    refine z_ne0 hx hb (scF_r _ _) dL_law_577 dL_law_580 dL_law_581 dL_law_584 ?_
    refine z_wVi (G := G) (X := mdL G md ma mb mc mt m1 m2 m3 m4 m5 m6 m7 th w h cnt most rch tl (cs.length : Int) M Y C T CA CB CN CG CS Z K ++ (ol G oa ((zI ((bandV M (PPf Y w (w * h)) (w * h) cnt (scF xs (i + 3)) ((scF xs (i + 1)) + w * (scF xs (i + 2))) (if (if (scF xs (i + 4)) = 0 then (0 : Int) else 1) = 0 then -1 else (lendV w h rch (scF xs (i + 1)) (scF xs (i + 2)) (cdB M (PPf Y w (w * h)) (w * h) cnt w ((scF xs (i + 1)) + w * (scF xs (i + 2))))))))).toInt) :: xL G xx pg ik mx co pa cv ca cb ar ((cs).length : Int) w h (w * h) cnt most rch M C (PPf Y w (w * h)) cc L V (Fof cs))) (wc := mdL G md ma mb mc mt m1 m2 m3 m4 m5 m6 m7 th w h cnt most rch tl (cs.length : Int) M Y C T CA CB CN CG CS Z K) (wr := ol G oa ((zI ((bandV M (PPf Y w (w * h)) (w * h) cnt (scF xs (i + 3)) ((scF xs (i + 1)) + w * (scF xs (i + 2))) (if (if (scF xs (i + 4)) = 0 then (0 : Int) else 1) = 0 then -1 else (lendV w h rch (scF xs (i + 1)) (scF xs (i + 2)) (cdB M (PPf Y w (w * h)) (w * h) cnt w ((scF xs (i + 1)) + w * (scF xs (i + 2))))))))).toInt) :: xL G xx pg ik mx co pa cv ca cb ar ((cs).length : Int) w h (w * h) cnt most rch M C (PPf Y w (w * h)) cc L V (Fof cs)) (pl := clAll G (cs)) (q0 := 0) (As := [.int (zI ((scF xs (i + 1)))), .int (zI ((scF xs (i + 2)))), .int (zI ((scF xs (i + 3)))), .int (zI ((if scF xs (i + 4) = 0 then 0 else 1)))]) (rest := []) hx hb hml hown hT hK (c_X5_seen l G md ma mb mc mt m1 m2 m3 m4 m5 m6 m7 th w h cnt most rch tl ((cs.length : Nat) : Int) M Y C T CA CB CN CG CS Z K (scF xs (i + 1)) (scF xs (i + 2)) (scF xs (i + 3)) (if scF xs (i + 4) = 0 then 0 else 1) hI.1 r1 r2 r3 (z01 _)) kc_L_104 (by dsimp only; omega) (by dsimp only; omega) hP hD hS hA [0, 1, 2, 3, 4, 5, 6, 7, 8, 9, 10, 11] [12, 13, 14, 15, 16, 17, 18, 19, 20, 21, 22] rfl rfl rfl rfl (by decide) rfl rfl rfl rfl hl.1 rfl (Nat.le_of_ble_eq_true rfl) dL_law_585 (fun u8 H locs hok8 hP hD hS => ?_)
    try dsimp only at hP hD hok8
    try simp only [if_pos hcd] at hP hD
    have hP : zP G (((ol G oa ((zI ((bandV M (PPf Y w (w * h)) (w * h) cnt (scF xs (i + 3)) ((scF xs (i + 1)) + w * (scF xs (i + 2))) (if (if (scF xs (i + 4)) = 0 then (0 : Int) else 1) = 0 then -1 else (lendV w h rch (scF xs (i + 1)) (scF xs (i + 2)) (cdB M (PPf Y w (w * h)) (w * h) cnt w ((scF xs (i + 1)) + w * (scF xs (i + 2))))))))).toInt) :: xL G xx pg ik mx co pa cv ca cb ar ((cs).length : Int) w h (w * h) cnt most rch M C (PPf Y w (w * h)) cc L V (Fof cs)) ++ mdL G md ma mb mc mt m1 m2 m3 m4 m5 m6 m7 (cSee (scF xs (i + 1)) (scF xs (i + 2)) (scF xs (i + 3)) w h) w h cnt most rch tl (cs.length : Int) M Y C T CA CB CN CG CS Z K) ++ clAll G (cs)) H := hP
    have hD : va_D A (((ol G oa ((zI ((bandV M (PPf Y w (w * h)) (w * h) cnt (scF xs (i + 3)) ((scF xs (i + 1)) + w * (scF xs (i + 2))) (if (if (scF xs (i + 4)) = 0 then (0 : Int) else 1) = 0 then -1 else (lendV w h rch (scF xs (i + 1)) (scF xs (i + 2)) (cdB M (PPf Y w (w * h)) (w * h) cnt w ((scF xs (i + 1)) + w * (scF xs (i + 2))))))))).toInt) :: xL G xx pg ik mx co pa cv ca cb ar ((cs).length : Int) w h (w * h) cnt most rch M C (PPf Y w (w * h)) cc L V (Fof cs)) ++ mdL G md ma mb mc mt m1 m2 m3 m4 m5 m6 m7 (cSee (scF xs (i + 1)) (scF xs (i + 2)) (scF xs (i + 3)) w h) w h cnt most rch tl (cs.length : Int) M Y C T CA CB CN CG CS Z K) ++ clAll G (cs)) := hD
    refine lv_istore (lv' := [(6, .int (zI ((if (cSee (scF xs (i + 1)) (scF xs (i + 2)) (scF xs (i + 3)) w h) = 0 then (bandV M (PPf Y w (w * h)) (w * h) cnt (scF xs (i + 3)) ((scF xs (i + 1)) + w * (scF xs (i + 2))) (if (if (scF xs (i + 4)) = 0 then (0 : Int) else 1) = 0 then -1 else (lendV w h rch (scF xs (i + 1)) (scF xs (i + 2)) (cdB M (PPf Y w (w * h)) (w * h) cnt w ((scF xs (i + 1)) + w * (scF xs (i + 2))))))) else 0)))), (5, .int (zI ((cSee (scF xs (i + 1)) (scF xs (i + 2)) (scF xs (i + 3)) w h)))), (0, .ref b), (1, .ref xx), (2, .ref md), (3, .ref oa), (4, .int (zI (i)))]) hx hb dL_law_588 hl (by decide) rfl (fun ls hl => ?_)
    refine lv_aload_n hx hb dL_law_590 rfl (lv_at hl 4 rfl) ?_
    refine z_callV (q0 := 0) (G := G) (As := []) (rest := []) hx hb hml hown hT hK (c_X5_thrown l G md ma mb mc mt m1 m2 m3 m4 m5 m6 m7 (cSee (scF xs (i + 1)) (scF xs (i + 2)) (scF xs (i + 3)) w h) w h cnt most rch tl (cs.length : Int) M Y C T CA CB CN CG CS Z K) kc_L_81 (by dsimp only; omega) ⟨rfl, rfl⟩ (by dsimp only; omega) ((zP_left hP).sub [11, 12, 13, 14, 15, 16, 17, 18, 19, 20, 21, 22] rfl) rfl rfl rfl rfl hl.1 rfl (Nat.le_of_ble_eq_true rfl) dL_law_591 ?_
    refine lv_iload hx hb dL_law_594 (lv_at hl 1 rfl) ?_
    refine z_icmp_eq (tgt := 601) hx hb dL_law_596 (by decide) (by omega) (by omega) (fun _ => ?_) (fun h => absurd rfl h)
    refine lv_iload hx hb dL_law_601 (lv_at hl 1 rfl) ?_
    refine z_if_ne (tgt := 618) hx hb dL_law_603 (by decide) (by omega) (fun h => absurd hcd h) (fun _ => ?_)
    refine lv_aload_n hx hb dL_law_606 rfl (lv_at hl 5 rfl) ?_
    refine z_iconst hx hb dL_law_607 ?_
    refine z_lald hx hb hK hP 0 rfl dL_law_608 ?_
    refine lv_iload hx hb dL_law_609 (lv_at hl 0 rfl) ?_
    refine z_i2lw hx hb dL_law_611 ?_
    refine z_lcmp0 hx hb (by rw [if_pos hcd]) dL_law_612 ?_
    refine z_if_eq (tgt := 618) hx hb dL_law_613 (by decide) (by omega) (fun _ => ?_) (fun h => absurd rfl h)
    refine z_goto (tgt := 1231) hx hb dL_law_618 (by decide) ?_
    refine W.widen (k := cells + 8) (n := slots + 1000) (by dsimp only; omega) (by dsimp only; omega) ?_
    exact hn ((zI ((bandV M (PPf Y w (w * h)) (w * h) cnt (scF xs (i + 3)) ((scF xs (i + 1)) + w * (scF xs (i + 2))) (if (if (scF xs (i + 4)) = 0 then (0 : Int) else 1) = 0 then -1 else (lendV w h rch (scF xs (i + 1)) (scF xs (i + 2)) (cdB M (PPf Y w (w * h)) (w * h) cnt w ((scF xs (i + 1)) + w * (scF xs (i + 2))))))))).toInt) (cSee (scF xs (i + 1)) (scF xs (i + 2)) (scF xs (i + 3)) w h) cnt most rch cc tl M C L V Y T CA CB CN CG CS Z K cs H locs ls (hI) (lv_sub hl [2, 3, 4, 5, 6] rfl) hP hD hS
  · skip
    rw [if_neg hcd] at hP9 hD9
    obtain ⟨hP, hD⟩ := va_joinP (X := (ol G oa ov :: xL G xx pg ik mx co pa cv ca cb ar ((cs).length : Int) w h (w * h) cnt most rch M C (PPf Y w (w * h)) cc L V (Fof cs)) ++ mdL G md ma mb mc mt m1 m2 m3 m4 m5 m6 m7 th w h cnt most rch tl (cs.length : Int) M Y C T CA CB CN CG CS Z K) (cx := ol G oa ov :: xL G xx pg ik mx co pa cv ca cb ar ((cs).length : Int) w h (w * h) cnt most rch M C (PPf Y w (w * h)) cc L V (Fof cs)) (pl := clAll G cs) (wr := mdL G md ma mb mc mt m1 m2 m3 m4 m5 m6 m7 th w h cnt most rch tl (cs.length : Int) M Y C T CA CB CN CG CS Z K) (rx := ol G oa (ov) :: xL G xx pg ik mx co pa cv ca cb ar ((cs).length : Int) w h (w * h) cnt most rch M C (PPf Y w (w * h)) cc L V (Fof cs)) (pl1 := clAll G (cs)) hP hD [0, 1, 2, 3, 4, 5, 6, 7, 8, 9, 10] [11, 12, 13, 14, 15, 16, 17, 18, 19, 20, 21, 22] rfl rfl rfl (by decide) hk9 hsub9 hP9 hD9
    refine lv_istore (lv' := [(5, .int (zI ((cSee (scF xs (i + 1)) (scF xs (i + 2)) (scF xs (i + 3)) w h)))), (0, .ref b), (1, .ref xx), (2, .ref md), (3, .ref oa), (4, .int (zI (i)))]) hx hb dL_law_550 hl (by decide) rfl (fun ls hl => ?_)
    refine lv_aload_n hx hb dL_law_552 rfl (lv_at hl 3 rfl) ?_
    refine lv_aload_n hx hb dL_law_553 rfl (lv_at hl 1 rfl) ?_
    refine lv_iload hx hb dL_law_554 (lv_at hl 5 rfl) ?_
    refine z_iconst hx hb dL_law_556 ?_
    refine z_iadd hx hb dL_law_557 ?_
    refine z_sld hx hb hX hbl hbA hS ⟨by omega, by omega, by omega⟩ dL_law_558 ?_
    refine lv_aload_n hx hb dL_law_559 rfl (lv_at hl 1 rfl) ?_
    refine lv_iload hx hb dL_law_560 (lv_at hl 5 rfl) ?_
    refine z_iconst hx hb dL_law_562 ?_
    refine z_iadd hx hb dL_law_563 ?_
    refine z_sld hx hb hX hbl hbA hS ⟨by omega, by omega, by omega⟩ dL_law_564 ?_
    refine lv_aload_n hx hb dL_law_565 rfl (lv_at hl 1 rfl) ?_
    refine lv_iload hx hb dL_law_566 (lv_at hl 5 rfl) ?_
    refine z_iconst hx hb dL_law_568 ?_
    refine z_iadd hx hb dL_law_569 ?_
    refine z_sld hx hb hX hbl hbA hS ⟨by omega, by omega, by omega⟩ dL_law_570 ?_
    refine lv_aload_n hx hb dL_law_571 rfl (lv_at hl 1 rfl) ?_
    refine lv_iload hx hb dL_law_572 (lv_at hl 5 rfl) ?_
    refine z_iconst hx hb dL_law_574 ?_
    refine z_iadd hx hb dL_law_575 ?_
    refine z_sld hx hb hX hbl hbA hS ⟨by omega, by omega, by omega⟩ dL_law_576 ?_
    refine z_ne0 hx hb (scF_r _ _) dL_law_577 dL_law_580 dL_law_581 dL_law_584 ?_
    refine z_wVi (G := G) (X := mdL G md ma mb mc mt m1 m2 m3 m4 m5 m6 m7 th w h cnt most rch tl (cs.length : Int) M Y C T CA CB CN CG CS Z K ++ (ol G oa (ov) :: xL G xx pg ik mx co pa cv ca cb ar ((cs).length : Int) w h (w * h) cnt most rch M C (PPf Y w (w * h)) cc L V (Fof cs))) (wc := mdL G md ma mb mc mt m1 m2 m3 m4 m5 m6 m7 th w h cnt most rch tl (cs.length : Int) M Y C T CA CB CN CG CS Z K) (wr := ol G oa (ov) :: xL G xx pg ik mx co pa cv ca cb ar ((cs).length : Int) w h (w * h) cnt most rch M C (PPf Y w (w * h)) cc L V (Fof cs)) (pl := clAll G (cs)) (q0 := 0) (As := [.int (zI ((scF xs (i + 1)))), .int (zI ((scF xs (i + 2)))), .int (zI ((scF xs (i + 3)))), .int (zI ((if scF xs (i + 4) = 0 then 0 else 1)))]) (rest := []) hx hb hml hown hT hK (c_X5_seen l G md ma mb mc mt m1 m2 m3 m4 m5 m6 m7 th w h cnt most rch tl ((cs.length : Nat) : Int) M Y C T CA CB CN CG CS Z K (scF xs (i + 1)) (scF xs (i + 2)) (scF xs (i + 3)) (if scF xs (i + 4) = 0 then 0 else 1) hI.1 r1 r2 r3 (z01 _)) kc_L_104 (by dsimp only; omega) (by dsimp only; omega) hP hD hS hA [0, 1, 2, 3, 4, 5, 6, 7, 8, 9, 10, 11] [12, 13, 14, 15, 16, 17, 18, 19, 20, 21, 22] rfl rfl rfl rfl (by decide) rfl rfl rfl rfl hl.1 rfl (Nat.le_of_ble_eq_true rfl) dL_law_585 (fun u8 H locs hok8 hP hD hS => ?_)
    try dsimp only at hP hD hok8
    try simp only [if_neg hcd] at hP hD
    have hP : zP G (((ol G oa (ov) :: xL G xx pg ik mx co pa cv ca cb ar ((cs).length : Int) w h (w * h) cnt most rch M C (PPf Y w (w * h)) cc L V (Fof cs)) ++ mdL G md ma mb mc mt m1 m2 m3 m4 m5 m6 m7 (cSee (scF xs (i + 1)) (scF xs (i + 2)) (scF xs (i + 3)) w h) w h cnt most rch tl (cs.length : Int) M Y C T CA CB CN CG CS Z K) ++ clAll G (cs)) H := hP
    have hD : va_D A (((ol G oa (ov) :: xL G xx pg ik mx co pa cv ca cb ar ((cs).length : Int) w h (w * h) cnt most rch M C (PPf Y w (w * h)) cc L V (Fof cs)) ++ mdL G md ma mb mc mt m1 m2 m3 m4 m5 m6 m7 (cSee (scF xs (i + 1)) (scF xs (i + 2)) (scF xs (i + 3)) w h) w h cnt most rch tl (cs.length : Int) M Y C T CA CB CN CG CS Z K) ++ clAll G (cs)) := hD
    refine lv_istore (lv' := [(6, .int (zI ((if (cSee (scF xs (i + 1)) (scF xs (i + 2)) (scF xs (i + 3)) w h) = 0 then (bandV M (PPf Y w (w * h)) (w * h) cnt (scF xs (i + 3)) ((scF xs (i + 1)) + w * (scF xs (i + 2))) (if (if (scF xs (i + 4)) = 0 then (0 : Int) else 1) = 0 then -1 else (lendV w h rch (scF xs (i + 1)) (scF xs (i + 2)) (cdB M (PPf Y w (w * h)) (w * h) cnt w ((scF xs (i + 1)) + w * (scF xs (i + 2))))))) else 0)))), (5, .int (zI ((cSee (scF xs (i + 1)) (scF xs (i + 2)) (scF xs (i + 3)) w h)))), (0, .ref b), (1, .ref xx), (2, .ref md), (3, .ref oa), (4, .int (zI (i)))]) hx hb dL_law_588 hl (by decide) rfl (fun ls hl => ?_)
    refine lv_aload_n hx hb dL_law_590 rfl (lv_at hl 4 rfl) ?_
    refine z_callV (q0 := 0) (G := G) (As := []) (rest := []) hx hb hml hown hT hK (c_X5_thrown l G md ma mb mc mt m1 m2 m3 m4 m5 m6 m7 (cSee (scF xs (i + 1)) (scF xs (i + 2)) (scF xs (i + 3)) w h) w h cnt most rch tl (cs.length : Int) M Y C T CA CB CN CG CS Z K) kc_L_81 (by dsimp only; omega) ⟨rfl, rfl⟩ (by dsimp only; omega) ((zP_left hP).sub [11, 12, 13, 14, 15, 16, 17, 18, 19, 20, 21, 22] rfl) rfl rfl rfl rfl hl.1 rfl (Nat.le_of_ble_eq_true rfl) dL_law_591 ?_
    refine lv_iload hx hb dL_law_594 (lv_at hl 1 rfl) ?_
    refine z_icmp_eq (tgt := 601) hx hb dL_law_596 (by decide) (by omega) (by omega) (fun _ => ?_) (fun h => absurd rfl h)
    refine lv_iload hx hb dL_law_601 (lv_at hl 1 rfl) ?_
    refine z_if_ne (tgt := 618) hx hb dL_law_603 (by decide) (by omega) (fun _ => ?_) (fun h => absurd h hcd)
    refine z_goto (tgt := 1231) hx hb dL_law_618 (by decide) ?_
    refine W.widen (k := cells + 8) (n := slots + 1000) (by dsimp only; omega) (by dsimp only; omega) ?_
    exact hn ov (cSee (scF xs (i + 1)) (scF xs (i + 2)) (scF xs (i + 3)) w h) cnt most rch cc tl M C L V Y T CA CB CN CG CS Z K cs H locs ls (hI) (lv_sub hl [2, 3, 4, 5, 6] rfl) hP hD hS
set_option maxHeartbeats 4000000 in
set_option maxRecDepth 100000 in
theorem law_lender (hc : lawC p l R s m args c G A b Ls xs) (hi : 2 ≤ i ∧ i + 6 ≤ (Ls : Int)) (hI : lInv w h cnt most rch M C cc L V cs tl Y T CN CG CS K) (hl : lv_has ls 8 [(0, .ref b), (1, .ref xx), (2, .ref md), (3, .ref oa), (4, .int (zI i))]) (hP : zP G (lawW G oa xx pg ik mx co pa cv ca cb ar md ma mb mc mt m1 m2 m3 m4 m5 m6 m7 w h ov th cnt most rch cc tl M C L V Y T CA CB CN CG CS Z K cs) H) (hD : va_D A (lawW G oa xx pg ik mx co pa cv ca cb ar md ma mb mc mt m1 m2 m3 m4 m5 m6 m7 w h ov th cnt most rch cc tl M C L V Y T CA CB CN CG CS Z K cs)) (hS : va_S A s.heap H locs) (hcl : cells + 8 ≤ R.cells ∧ slots + 1000 ≤ R.slots) (hn : lawN p l e R s m args below meth c (cells + 8) (slots + 1000) Q G A b oa xx pg ik mx co pa cv ca cb ar md ma mb mc mt m1 m2 m3 m4 m5 m6 m7 i w h) : W p l e R s m args below meth c H locs cells slots Q (F0 m 621 ls []) := by
  obtain ⟨hx, hb, hml, hown, hT, hK, hXz, hN, hX, hbl, hst, hRf, hRl, hA, hbA, hLs⟩ := hc
  have hP : zP G (((ol G oa ov :: xL G xx pg ik mx co pa cv ca cb ar ((cs).length : Int) w h (w * h) cnt most rch M C (PPf Y w (w * h)) cc L V (Fof cs)) ++ mdL G md ma mb mc mt m1 m2 m3 m4 m5 m6 m7 th w h cnt most rch tl (cs.length : Int) M Y C T CA CB CN CG CS Z K) ++ clAll G cs) H := hP
  have hD : va_D A (((ol G oa ov :: xL G xx pg ik mx co pa cv ca cb ar ((cs).length : Int) w h (w * h) cnt most rch M C (PPf Y w (w * h)) cc L V (Fof cs)) ++ mdL G md ma mb mc mt m1 m2 m3 m4 m5 m6 m7 th w h cnt most rch tl (cs.length : Int) M Y C T CA CB CN CG CS Z K) ++ clAll G cs) := hD
  have r1 := scF_r xs (i + 1)
  have r2 := scF_r xs (i + 2)
  refine lv_aload_n hx hb dL_law_621 rfl (lv_at hl 1 rfl) ?_
  refine lv_aload_n hx hb dL_law_622 rfl (lv_at hl 0 rfl) ?_
  refine lv_iload hx hb dL_law_623 (lv_at hl 4 rfl) ?_
  refine z_iconst hx hb dL_law_625 ?_
  refine z_iadd hx hb dL_law_626 ?_
  refine z_sld hx hb hX hbl hbA hS ⟨by omega, by omega, by omega⟩ dL_law_627 ?_
  refine lv_aload_n hx hb dL_law_628 rfl (lv_at hl 0 rfl) ?_
  refine lv_iload hx hb dL_law_629 (lv_at hl 4 rfl) ?_
  refine z_iconst hx hb dL_law_631 ?_
  refine z_iadd hx hb dL_law_632 ?_
  refine z_sld hx hb hX hbl hbA hS ⟨by omega, by omega, by omega⟩ dL_law_633 ?_
  refine lv_aload_n hx hb dL_law_634 rfl (lv_at hl 3 rfl) ?_
  refine z_sH (G := G) (X := (ol G oa ov :: xL G xx pg ik mx co pa cv ca cb ar ((cs).length : Int) w h (w * h) cnt most rch M C (PPf Y w (w * h)) cc L V (Fof cs)) ++ mdL G md ma mb mc mt m1 m2 m3 m4 m5 m6 m7 th w h cnt most rch tl (cs.length : Int) M Y C T CA CB CN CG CS Z K) (cx := ol G oa ov :: xL G xx pg ik mx co pa cv ca cb ar ((cs).length : Int) w h (w * h) cnt most rch M C (PPf Y w (w * h)) cc L V (Fof cs)) (pl := clAll G cs) (As := [.ref xx, .int (zI ((scF xs (i + 1)))), .int (zI ((scF xs (i + 2)))), .ref oa]) (rest := []) hx hb hml hown hT hK (c_L_lender l hst G xx pg ik mx co pa cv ca cb ar ((cs.length : Nat) : Int) w h (w * h) cnt most rch M C (PPf Y w (w * h)) cc L V cs (scF xs (i + 1)) (scF xs (i + 2)) oa ov (lInv_pg hI) hI.2.2.1 (lInv_nx hI) hI.2.2.2.2.1 rfl r1 r2) kh_L_105 (by dsimp only; omega) (by dsimp only; omega) hP hD hS hA hXz hN [0, 1, 2, 3, 4, 5, 6, 7, 8, 9, 10] rfl rfl rfl hl.1 rfl (Nat.le_of_ble_eq_true rfl) dL_law_635 (fun u9 H1 locs1 hok9 hk9 hsub9 hP9 hD9 hS => ?_)
  have hcr : 0 ≤ (cLen (scF xs (i + 1)) (scF xs (i + 2)) w h) ∧ (cLen (scF xs (i + 1)) (scF xs (i + 2)) w h) ≤ 3 := by
    unfold cLen; (repeat' split) <;> omega
  try dsimp only at hP9 hD9 hok9
  by_cases hcd : (cLen (scF xs (i + 1)) (scF xs (i + 2)) w h) = 0
  · skip
    rw [if_pos hcd] at hP9 hD9
    obtain ⟨hP, hD⟩ := va_joinP (X := (ol G oa ov :: xL G xx pg ik mx co pa cv ca cb ar ((cs).length : Int) w h (w * h) cnt most rch M C (PPf Y w (w * h)) cc L V (Fof cs)) ++ mdL G md ma mb mc mt m1 m2 m3 m4 m5 m6 m7 th w h cnt most rch tl (cs.length : Int) M Y C T CA CB CN CG CS Z K) (cx := ol G oa ov :: xL G xx pg ik mx co pa cv ca cb ar ((cs).length : Int) w h (w * h) cnt most rch M C (PPf Y w (w * h)) cc L V (Fof cs)) (pl := clAll G cs) (wr := mdL G md ma mb mc mt m1 m2 m3 m4 m5 m6 m7 th w h cnt most rch tl (cs.length : Int) M Y C T CA CB CN CG CS Z K) (rx := ol G oa ((zI ((lendV w h rch (scF xs (i + 1)) (scF xs (i + 2)) (cdB M (PPf Y w (w * h)) (w * h) cnt w ((scF xs (i + 1)) + w * (scF xs (i + 2))))))).toInt) :: xL G xx pg ik mx co pa cv ca cb ar ((cs).length : Int) w h (w * h) cnt most rch M C (PPf Y w (w * h)) cc L V (Fof cs)) (pl1 := clAll G (cs)) hP hD [0, 1, 2, 3, 4, 5, 6, 7, 8, 9, 10] [11, 12, 13, 14, 15, 16, 17, 18, 19, 20, 21, 22] rfl rfl rfl (by decide) hk9 hsub9 hP9 hD9
    refine lv_istore (lv' := [(5, .int (zI ((cLen (scF xs (i + 1)) (scF xs (i + 2)) w h)))), (0, .ref b), (1, .ref xx), (2, .ref md), (3, .ref oa), (4, .int (zI (i)))]) hx hb dL_law_638 hl (by decide) rfl (fun ls hl => ?_)
    refine lv_aload_n hx hb dL_law_640 rfl (lv_at hl 3 rfl) ?_
    refine lv_aload_n hx hb dL_law_641 rfl (lv_at hl 1 rfl) ?_
    refine lv_iload hx hb dL_law_642 (lv_at hl 5 rfl) ?_
    refine z_iconst hx hb dL_law_644 ?_
    refine z_iadd hx hb dL_law_645 ?_
    refine z_sld hx hb hX hbl hbA hS ⟨by omega, by omega, by omega⟩ dL_law_646 ?_
    refine lv_aload_n hx hb dL_law_647 rfl (lv_at hl 1 rfl) ?_
    refine lv_iload hx hb dL_law_648 (lv_at hl 5 rfl) ?_
    refine z_iconst hx hb dL_law_650 ?_
    refine z_iadd hx hb dL_law_651 ?_
    refine z_sld hx hb hX hbl hbA hS ⟨by omega, by omega, by omega⟩ dL_law_652 ?_
    refine z_wVi (G := G) (X := mdL G md ma mb mc mt m1 m2 m3 m4 m5 m6 m7 th w h cnt most rch tl (cs.length : Int) M Y C T CA CB CN CG CS Z K ++ (ol G oa ((zI ((lendV w h rch (scF xs (i + 1)) (scF xs (i + 2)) (cdB M (PPf Y w (w * h)) (w * h) cnt w ((scF xs (i + 1)) + w * (scF xs (i + 2))))))).toInt) :: xL G xx pg ik mx co pa cv ca cb ar ((cs).length : Int) w h (w * h) cnt most rch M C (PPf Y w (w * h)) cc L V (Fof cs))) (wc := mdL G md ma mb mc mt m1 m2 m3 m4 m5 m6 m7 th w h cnt most rch tl (cs.length : Int) M Y C T CA CB CN CG CS Z K) (wr := ol G oa ((zI ((lendV w h rch (scF xs (i + 1)) (scF xs (i + 2)) (cdB M (PPf Y w (w * h)) (w * h) cnt w ((scF xs (i + 1)) + w * (scF xs (i + 2))))))).toInt) :: xL G xx pg ik mx co pa cv ca cb ar ((cs).length : Int) w h (w * h) cnt most rch M C (PPf Y w (w * h)) cc L V (Fof cs)) (pl := clAll G (cs)) (q0 := 0) (As := [.int (zI ((scF xs (i + 1)))), .int (zI ((scF xs (i + 2))))]) (rest := []) hx hb hml hown hT hK (c_X5_lender l G md ma mb mc mt m1 m2 m3 m4 m5 m6 m7 th w h cnt most rch tl ((cs.length : Nat) : Int) M Y C T CA CB CN CG CS Z K (scF xs (i + 1)) (scF xs (i + 2)) hI.1 r1 r2) kc_L_108 (by dsimp only; omega) (by dsimp only; omega) hP hD hS hA [0, 1, 2, 3, 4, 5, 6, 7, 8, 9, 10, 11] [12, 13, 14, 15, 16, 17, 18, 19, 20, 21, 22] rfl rfl rfl rfl (by decide) rfl rfl rfl rfl hl.1 rfl (Nat.le_of_ble_eq_true rfl) dL_law_653 (fun u8 H locs hok8 hP hD hS => ?_)
    try dsimp only at hP hD hok8
    try simp only [if_pos hcd] at hP hD
    have hP : zP G (((ol G oa ((zI ((lendV w h rch (scF xs (i + 1)) (scF xs (i + 2)) (cdB M (PPf Y w (w * h)) (w * h) cnt w ((scF xs (i + 1)) + w * (scF xs (i + 2))))))).toInt) :: xL G xx pg ik mx co pa cv ca cb ar ((cs).length : Int) w h (w * h) cnt most rch M C (PPf Y w (w * h)) cc L V (Fof cs)) ++ mdL G md ma mb mc mt m1 m2 m3 m4 m5 m6 m7 (cLen (scF xs (i + 1)) (scF xs (i + 2)) w h) w h cnt most rch tl (cs.length : Int) M Y C T CA CB CN CG CS Z K) ++ clAll G (cs)) H := hP
    have hD : va_D A (((ol G oa ((zI ((lendV w h rch (scF xs (i + 1)) (scF xs (i + 2)) (cdB M (PPf Y w (w * h)) (w * h) cnt w ((scF xs (i + 1)) + w * (scF xs (i + 2))))))).toInt) :: xL G xx pg ik mx co pa cv ca cb ar ((cs).length : Int) w h (w * h) cnt most rch M C (PPf Y w (w * h)) cc L V (Fof cs)) ++ mdL G md ma mb mc mt m1 m2 m3 m4 m5 m6 m7 (cLen (scF xs (i + 1)) (scF xs (i + 2)) w h) w h cnt most rch tl (cs.length : Int) M Y C T CA CB CN CG CS Z K) ++ clAll G (cs)) := hD
    refine lv_istore (lv' := [(6, .int (zI ((if (cLen (scF xs (i + 1)) (scF xs (i + 2)) w h) = 0 then (lendV w h rch (scF xs (i + 1)) (scF xs (i + 2)) (cdB M (PPf Y w (w * h)) (w * h) cnt w ((scF xs (i + 1)) + w * (scF xs (i + 2))))) else 0)))), (5, .int (zI ((cLen (scF xs (i + 1)) (scF xs (i + 2)) w h)))), (0, .ref b), (1, .ref xx), (2, .ref md), (3, .ref oa), (4, .int (zI (i)))]) hx hb dL_law_656 hl (by decide) rfl (fun ls hl => ?_)
    refine lv_aload_n hx hb dL_law_658 rfl (lv_at hl 4 rfl) ?_
    refine z_callV (q0 := 0) (G := G) (As := []) (rest := []) hx hb hml hown hT hK (c_X5_thrown l G md ma mb mc mt m1 m2 m3 m4 m5 m6 m7 (cLen (scF xs (i + 1)) (scF xs (i + 2)) w h) w h cnt most rch tl (cs.length : Int) M Y C T CA CB CN CG CS Z K) kc_L_81 (by dsimp only; omega) ⟨rfl, rfl⟩ (by dsimp only; omega) ((zP_left hP).sub [11, 12, 13, 14, 15, 16, 17, 18, 19, 20, 21, 22] rfl) rfl rfl rfl rfl hl.1 rfl (Nat.le_of_ble_eq_true rfl) dL_law_659 ?_
    refine lv_iload hx hb dL_law_662 (lv_at hl 1 rfl) ?_
    refine z_icmp_eq (tgt := 669) hx hb dL_law_664 (by decide) (by omega) (by omega) (fun _ => ?_) (fun h => absurd rfl h)
    refine lv_iload hx hb dL_law_669 (lv_at hl 1 rfl) ?_
    refine z_if_ne (tgt := 686) hx hb dL_law_671 (by decide) (by omega) (fun h => absurd hcd h) (fun _ => ?_)
    refine lv_aload_n hx hb dL_law_674 rfl (lv_at hl 5 rfl) ?_
    refine z_iconst hx hb dL_law_675 ?_
    refine z_lald hx hb hK hP 0 rfl dL_law_676 ?_
    refine lv_iload hx hb dL_law_677 (lv_at hl 0 rfl) ?_
    refine z_i2lw hx hb dL_law_679 ?_
    refine z_lcmp0 hx hb (by rw [if_pos hcd]) dL_law_680 ?_
    refine z_if_eq (tgt := 686) hx hb dL_law_681 (by decide) (by omega) (fun _ => ?_) (fun h => absurd rfl h)
    refine z_goto (tgt := 1231) hx hb dL_law_686 (by decide) ?_
    refine W.widen (k := cells + 8) (n := slots + 1000) (by dsimp only; omega) (by dsimp only; omega) ?_
    exact hn ((zI ((lendV w h rch (scF xs (i + 1)) (scF xs (i + 2)) (cdB M (PPf Y w (w * h)) (w * h) cnt w ((scF xs (i + 1)) + w * (scF xs (i + 2))))))).toInt) (cLen (scF xs (i + 1)) (scF xs (i + 2)) w h) cnt most rch cc tl M C L V Y T CA CB CN CG CS Z K cs H locs ls (hI) (lv_sub hl [2, 3, 4, 5, 6] rfl) hP hD hS
  · skip
    rw [if_neg hcd] at hP9 hD9
    obtain ⟨hP, hD⟩ := va_joinP (X := (ol G oa ov :: xL G xx pg ik mx co pa cv ca cb ar ((cs).length : Int) w h (w * h) cnt most rch M C (PPf Y w (w * h)) cc L V (Fof cs)) ++ mdL G md ma mb mc mt m1 m2 m3 m4 m5 m6 m7 th w h cnt most rch tl (cs.length : Int) M Y C T CA CB CN CG CS Z K) (cx := ol G oa ov :: xL G xx pg ik mx co pa cv ca cb ar ((cs).length : Int) w h (w * h) cnt most rch M C (PPf Y w (w * h)) cc L V (Fof cs)) (pl := clAll G cs) (wr := mdL G md ma mb mc mt m1 m2 m3 m4 m5 m6 m7 th w h cnt most rch tl (cs.length : Int) M Y C T CA CB CN CG CS Z K) (rx := ol G oa (ov) :: xL G xx pg ik mx co pa cv ca cb ar ((cs).length : Int) w h (w * h) cnt most rch M C (PPf Y w (w * h)) cc L V (Fof cs)) (pl1 := clAll G (cs)) hP hD [0, 1, 2, 3, 4, 5, 6, 7, 8, 9, 10] [11, 12, 13, 14, 15, 16, 17, 18, 19, 20, 21, 22] rfl rfl rfl (by decide) hk9 hsub9 hP9 hD9
    refine lv_istore (lv' := [(5, .int (zI ((cLen (scF xs (i + 1)) (scF xs (i + 2)) w h)))), (0, .ref b), (1, .ref xx), (2, .ref md), (3, .ref oa), (4, .int (zI (i)))]) hx hb dL_law_638 hl (by decide) rfl (fun ls hl => ?_)
    refine lv_aload_n hx hb dL_law_640 rfl (lv_at hl 3 rfl) ?_
    refine lv_aload_n hx hb dL_law_641 rfl (lv_at hl 1 rfl) ?_
    refine lv_iload hx hb dL_law_642 (lv_at hl 5 rfl) ?_
    refine z_iconst hx hb dL_law_644 ?_
    refine z_iadd hx hb dL_law_645 ?_
    refine z_sld hx hb hX hbl hbA hS ⟨by omega, by omega, by omega⟩ dL_law_646 ?_
    refine lv_aload_n hx hb dL_law_647 rfl (lv_at hl 1 rfl) ?_
    refine lv_iload hx hb dL_law_648 (lv_at hl 5 rfl) ?_
    refine z_iconst hx hb dL_law_650 ?_
    refine z_iadd hx hb dL_law_651 ?_
    refine z_sld hx hb hX hbl hbA hS ⟨by omega, by omega, by omega⟩ dL_law_652 ?_
    refine z_wVi (G := G) (X := mdL G md ma mb mc mt m1 m2 m3 m4 m5 m6 m7 th w h cnt most rch tl (cs.length : Int) M Y C T CA CB CN CG CS Z K ++ (ol G oa (ov) :: xL G xx pg ik mx co pa cv ca cb ar ((cs).length : Int) w h (w * h) cnt most rch M C (PPf Y w (w * h)) cc L V (Fof cs))) (wc := mdL G md ma mb mc mt m1 m2 m3 m4 m5 m6 m7 th w h cnt most rch tl (cs.length : Int) M Y C T CA CB CN CG CS Z K) (wr := ol G oa (ov) :: xL G xx pg ik mx co pa cv ca cb ar ((cs).length : Int) w h (w * h) cnt most rch M C (PPf Y w (w * h)) cc L V (Fof cs)) (pl := clAll G (cs)) (q0 := 0) (As := [.int (zI ((scF xs (i + 1)))), .int (zI ((scF xs (i + 2))))]) (rest := []) hx hb hml hown hT hK (c_X5_lender l G md ma mb mc mt m1 m2 m3 m4 m5 m6 m7 th w h cnt most rch tl ((cs.length : Nat) : Int) M Y C T CA CB CN CG CS Z K (scF xs (i + 1)) (scF xs (i + 2)) hI.1 r1 r2) kc_L_108 (by dsimp only; omega) (by dsimp only; omega) hP hD hS hA [0, 1, 2, 3, 4, 5, 6, 7, 8, 9, 10, 11] [12, 13, 14, 15, 16, 17, 18, 19, 20, 21, 22] rfl rfl rfl rfl (by decide) rfl rfl rfl rfl hl.1 rfl (Nat.le_of_ble_eq_true rfl) dL_law_653 (fun u8 H locs hok8 hP hD hS => ?_)
    try dsimp only at hP hD hok8
    try simp only [if_neg hcd] at hP hD
    have hP : zP G (((ol G oa (ov) :: xL G xx pg ik mx co pa cv ca cb ar ((cs).length : Int) w h (w * h) cnt most rch M C (PPf Y w (w * h)) cc L V (Fof cs)) ++ mdL G md ma mb mc mt m1 m2 m3 m4 m5 m6 m7 (cLen (scF xs (i + 1)) (scF xs (i + 2)) w h) w h cnt most rch tl (cs.length : Int) M Y C T CA CB CN CG CS Z K) ++ clAll G (cs)) H := hP
    have hD : va_D A (((ol G oa (ov) :: xL G xx pg ik mx co pa cv ca cb ar ((cs).length : Int) w h (w * h) cnt most rch M C (PPf Y w (w * h)) cc L V (Fof cs)) ++ mdL G md ma mb mc mt m1 m2 m3 m4 m5 m6 m7 (cLen (scF xs (i + 1)) (scF xs (i + 2)) w h) w h cnt most rch tl (cs.length : Int) M Y C T CA CB CN CG CS Z K) ++ clAll G (cs)) := hD
    refine lv_istore (lv' := [(6, .int (zI ((if (cLen (scF xs (i + 1)) (scF xs (i + 2)) w h) = 0 then (lendV w h rch (scF xs (i + 1)) (scF xs (i + 2)) (cdB M (PPf Y w (w * h)) (w * h) cnt w ((scF xs (i + 1)) + w * (scF xs (i + 2))))) else 0)))), (5, .int (zI ((cLen (scF xs (i + 1)) (scF xs (i + 2)) w h)))), (0, .ref b), (1, .ref xx), (2, .ref md), (3, .ref oa), (4, .int (zI (i)))]) hx hb dL_law_656 hl (by decide) rfl (fun ls hl => ?_)
    refine lv_aload_n hx hb dL_law_658 rfl (lv_at hl 4 rfl) ?_
    refine z_callV (q0 := 0) (G := G) (As := []) (rest := []) hx hb hml hown hT hK (c_X5_thrown l G md ma mb mc mt m1 m2 m3 m4 m5 m6 m7 (cLen (scF xs (i + 1)) (scF xs (i + 2)) w h) w h cnt most rch tl (cs.length : Int) M Y C T CA CB CN CG CS Z K) kc_L_81 (by dsimp only; omega) ⟨rfl, rfl⟩ (by dsimp only; omega) ((zP_left hP).sub [11, 12, 13, 14, 15, 16, 17, 18, 19, 20, 21, 22] rfl) rfl rfl rfl rfl hl.1 rfl (Nat.le_of_ble_eq_true rfl) dL_law_659 ?_
    refine lv_iload hx hb dL_law_662 (lv_at hl 1 rfl) ?_
    refine z_icmp_eq (tgt := 669) hx hb dL_law_664 (by decide) (by omega) (by omega) (fun _ => ?_) (fun h => absurd rfl h)
    refine lv_iload hx hb dL_law_669 (lv_at hl 1 rfl) ?_
    refine z_if_ne (tgt := 686) hx hb dL_law_671 (by decide) (by omega) (fun _ => ?_) (fun h => absurd h hcd)
    refine z_goto (tgt := 1231) hx hb dL_law_686 (by decide) ?_
    refine W.widen (k := cells + 8) (n := slots + 1000) (by dsimp only; omega) (by dsimp only; omega) ?_
    exact hn ov (cLen (scF xs (i + 1)) (scF xs (i + 2)) w h) cnt most rch cc tl M C L V Y T CA CB CN CG CS Z K cs H locs ls (hI) (lv_sub hl [2, 3, 4, 5, 6] rfl) hP hD hS
set_option maxHeartbeats 4000000 in
set_option maxRecDepth 100000 in
theorem law_width (hc : lawC p l R s m args c G A b Ls xs) (hi : 2 ≤ i ∧ i + 6 ≤ (Ls : Int)) (hI : lInv w h cnt most rch M C cc L V cs tl Y T CN CG CS K) (hl : lv_has ls 8 [(0, .ref b), (1, .ref xx), (2, .ref md), (3, .ref oa), (4, .int (zI i))]) (hP : zP G (lawW G oa xx pg ik mx co pa cv ca cb ar md ma mb mc mt m1 m2 m3 m4 m5 m6 m7 w h ov th cnt most rch cc tl M C L V Y T CA CB CN CG CS Z K cs) H) (hD : va_D A (lawW G oa xx pg ik mx co pa cv ca cb ar md ma mb mc mt m1 m2 m3 m4 m5 m6 m7 w h ov th cnt most rch cc tl M C L V Y T CA CB CN CG CS Z K cs)) (hS : va_S A s.heap H locs) (hcl : cells + 8 ≤ R.cells ∧ slots + 1000 ≤ R.slots) (hn : lawN p l e R s m args below meth c (cells + 8) (slots + 1000) Q G A b oa xx pg ik mx co pa cv ca cb ar md ma mb mc mt m1 m2 m3 m4 m5 m6 m7 i w h) : W p l e R s m args below meth c H locs cells slots Q (F0 m 689 ls []) := by
  obtain ⟨hx, hb, hml, hown, hT, hK, hXz, hN, hX, hbl, hst, hRf, hRl, hA, hbA, hLs⟩ := hc
  have hP : zP G (((ol G oa ov :: xL G xx pg ik mx co pa cv ca cb ar ((cs).length : Int) w h (w * h) cnt most rch M C (PPf Y w (w * h)) cc L V (Fof cs)) ++ mdL G md ma mb mc mt m1 m2 m3 m4 m5 m6 m7 th w h cnt most rch tl (cs.length : Int) M Y C T CA CB CN CG CS Z K) ++ clAll G cs) H := hP
  have hD : va_D A (((ol G oa ov :: xL G xx pg ik mx co pa cv ca cb ar ((cs).length : Int) w h (w * h) cnt most rch M C (PPf Y w (w * h)) cc L V (Fof cs)) ++ mdL G md ma mb mc mt m1 m2 m3 m4 m5 m6 m7 th w h cnt most rch tl (cs.length : Int) M Y C T CA CB CN CG CS Z K) ++ clAll G cs) := hD
  have r1 := scF_r xs (i + 1)
  refine lv_aload_n hx hb dL_law_689 rfl (lv_at hl 1 rfl) ?_
  refine lv_aload_n hx hb dL_law_690 rfl (lv_at hl 0 rfl) ?_
  refine lv_iload hx hb dL_law_691 (lv_at hl 4 rfl) ?_
  refine z_iconst hx hb dL_law_693 ?_
  refine z_iadd hx hb dL_law_694 ?_
  refine z_sld hx hb hX hbl hbA hS ⟨by omega, by omega, by omega⟩ dL_law_695 ?_
  refine lv_aload_n hx hb dL_law_696 rfl (lv_at hl 3 rfl) ?_
  refine z_sH (G := G) (X := (ol G oa ov :: xL G xx pg ik mx co pa cv ca cb ar ((cs).length : Int) w h (w * h) cnt most rch M C (PPf Y w (w * h)) cc L V (Fof cs)) ++ mdL G md ma mb mc mt m1 m2 m3 m4 m5 m6 m7 th w h cnt most rch tl (cs.length : Int) M Y C T CA CB CN CG CS Z K) (cx := ol G oa ov :: xL G xx pg ik mx co pa cv ca cb ar ((cs).length : Int) w h (w * h) cnt most rch M C (PPf Y w (w * h)) cc L V (Fof cs)) (pl := clAll G cs) (As := [.ref xx, .int (zI ((scF xs (i + 1)))), .ref oa]) (rest := []) hx hb hml hown hT hK (c_L_width l hst G xx pg ik mx co pa cv ca cb ar ((cs.length : Nat) : Int) w h (w * h) cnt most rch M C (PPf Y w (w * h)) cc L V cs (scF xs (i + 1)) oa ov (lInv_pg hI) hI.2.2.1 (lInv_nx hI) hI.2.2.2.2.1 rfl r1) kh_L_109 (by dsimp only; omega) (by dsimp only; omega) hP hD hS hA hXz hN [0, 1, 2, 3, 4, 5, 6, 7, 8, 9, 10] rfl rfl rfl hl.1 rfl (Nat.le_of_ble_eq_true rfl) dL_law_697 (fun u9 H1 locs1 hok9 hk9 hsub9 hP9 hD9 hS => ?_)
  have hcr : 0 ≤ (cWid (scF xs (i + 1))) ∧ (cWid (scF xs (i + 1))) ≤ 3 := by
    unfold cWid; (repeat' split) <;> omega
  try dsimp only at hP9 hD9 hok9
  by_cases hcd : (cWid (scF xs (i + 1))) = 0
  · skip
    rw [if_pos hcd] at hP9 hD9
    obtain ⟨hP, hD⟩ := va_joinP (X := (ol G oa ov :: xL G xx pg ik mx co pa cv ca cb ar ((cs).length : Int) w h (w * h) cnt most rch M C (PPf Y w (w * h)) cc L V (Fof cs)) ++ mdL G md ma mb mc mt m1 m2 m3 m4 m5 m6 m7 th w h cnt most rch tl (cs.length : Int) M Y C T CA CB CN CG CS Z K) (cx := ol G oa ov :: xL G xx pg ik mx co pa cv ca cb ar ((cs).length : Int) w h (w * h) cnt most rch M C (PPf Y w (w * h)) cc L V (Fof cs)) (pl := clAll G cs) (wr := mdL G md ma mb mc mt m1 m2 m3 m4 m5 m6 m7 th w h cnt most rch tl (cs.length : Int) M Y C T CA CB CN CG CS Z K) (rx := ol G oa ((zI (rch)).toInt) :: xL G xx pg ik mx co pa cv ca cb ar ((cs).length : Int) w h (w * h) cnt most (scF xs (i + 1)) M C (PPf Y w (w * h)) cc L V (Fof cs)) (pl1 := clAll G (cs)) hP hD [0, 1, 2, 3, 4, 5, 6, 7, 8, 9, 10] [11, 12, 13, 14, 15, 16, 17, 18, 19, 20, 21, 22] rfl rfl rfl (by decide) hk9 hsub9 hP9 hD9
    refine lv_istore (lv' := [(5, .int (zI ((cWid (scF xs (i + 1)))))), (0, .ref b), (1, .ref xx), (2, .ref md), (3, .ref oa), (4, .int (zI (i)))]) hx hb dL_law_700 hl (by decide) rfl (fun ls hl => ?_)
    refine lv_aload_n hx hb dL_law_702 rfl (lv_at hl 3 rfl) ?_
    refine lv_aload_n hx hb dL_law_703 rfl (lv_at hl 1 rfl) ?_
    refine lv_iload hx hb dL_law_704 (lv_at hl 5 rfl) ?_
    refine z_iconst hx hb dL_law_706 ?_
    refine z_iadd hx hb dL_law_707 ?_
    refine z_sld hx hb hX hbl hbA hS ⟨by omega, by omega, by omega⟩ dL_law_708 ?_
    refine z_wVi (G := G) (X := mdL G md ma mb mc mt m1 m2 m3 m4 m5 m6 m7 th w h cnt most rch tl (cs.length : Int) M Y C T CA CB CN CG CS Z K ++ (ol G oa ((zI (rch)).toInt) :: xL G xx pg ik mx co pa cv ca cb ar ((cs).length : Int) w h (w * h) cnt most (scF xs (i + 1)) M C (PPf Y w (w * h)) cc L V (Fof cs))) (wc := mdL G md ma mb mc mt m1 m2 m3 m4 m5 m6 m7 th w h cnt most rch tl (cs.length : Int) M Y C T CA CB CN CG CS Z K) (wr := ol G oa ((zI (rch)).toInt) :: xL G xx pg ik mx co pa cv ca cb ar ((cs).length : Int) w h (w * h) cnt most (scF xs (i + 1)) M C (PPf Y w (w * h)) cc L V (Fof cs)) (pl := clAll G (cs)) (q0 := 0) (As := [.int (zI ((scF xs (i + 1))))]) (rest := []) hx hb hml hown hT hK (c_X5_width l G md ma mb mc mt m1 m2 m3 m4 m5 m6 m7 th w h cnt most rch tl ((cs.length : Nat) : Int) M Y C T CA CB CN CG CS Z K (scF xs (i + 1)) hI.1 r1) kc_L_111 (by dsimp only; omega) (by dsimp only; omega) hP hD hS hA [0, 1, 2, 3, 4, 5, 6, 7, 8, 9, 10, 11] [12, 13, 14, 15, 16, 17, 18, 19, 20, 21, 22] rfl rfl rfl rfl (by decide) rfl rfl rfl rfl hl.1 rfl (Nat.le_of_ble_eq_true rfl) dL_law_709 (fun u8 H locs hok8 hP hD hS => ?_)
    try dsimp only at hP hD hok8
    try simp only [if_pos hcd] at hP hD
    have hP : zP G (((ol G oa ((zI (rch)).toInt) :: xL G xx pg ik mx co pa cv ca cb ar ((cs).length : Int) w h (w * h) cnt most (scF xs (i + 1)) M C (PPf Y w (w * h)) cc L V (Fof cs)) ++ mdL G md ma mb mc mt m1 m2 m3 m4 m5 m6 m7 (cWid (scF xs (i + 1))) w h cnt most (scF xs (i + 1)) tl (cs.length : Int) M Y C T CA CB CN CG CS Z K) ++ clAll G (cs)) H := hP
    have hD : va_D A (((ol G oa ((zI (rch)).toInt) :: xL G xx pg ik mx co pa cv ca cb ar ((cs).length : Int) w h (w * h) cnt most (scF xs (i + 1)) M C (PPf Y w (w * h)) cc L V (Fof cs)) ++ mdL G md ma mb mc mt m1 m2 m3 m4 m5 m6 m7 (cWid (scF xs (i + 1))) w h cnt most (scF xs (i + 1)) tl (cs.length : Int) M Y C T CA CB CN CG CS Z K) ++ clAll G (cs)) := hD
    refine lv_istore (lv' := [(6, .int (zI ((if (cWid (scF xs (i + 1))) = 0 then rch else 0)))), (5, .int (zI ((cWid (scF xs (i + 1)))))), (0, .ref b), (1, .ref xx), (2, .ref md), (3, .ref oa), (4, .int (zI (i)))]) hx hb dL_law_712 hl (by decide) rfl (fun ls hl => ?_)
    refine lv_aload_n hx hb dL_law_714 rfl (lv_at hl 4 rfl) ?_
    refine z_callV (q0 := 0) (G := G) (As := []) (rest := []) hx hb hml hown hT hK (c_X5_thrown l G md ma mb mc mt m1 m2 m3 m4 m5 m6 m7 (cWid (scF xs (i + 1))) w h cnt most (scF xs (i + 1)) tl (cs.length : Int) M Y C T CA CB CN CG CS Z K) kc_L_81 (by dsimp only; omega) ⟨rfl, rfl⟩ (by dsimp only; omega) ((zP_left hP).sub [11, 12, 13, 14, 15, 16, 17, 18, 19, 20, 21, 22] rfl) rfl rfl rfl rfl hl.1 rfl (Nat.le_of_ble_eq_true rfl) dL_law_715 ?_
    refine lv_iload hx hb dL_law_718 (lv_at hl 1 rfl) ?_
    refine z_icmp_eq (tgt := 725) hx hb dL_law_720 (by decide) (by omega) (by omega) (fun _ => ?_) (fun h => absurd rfl h)
    refine lv_iload hx hb dL_law_725 (lv_at hl 1 rfl) ?_
    refine z_if_ne (tgt := 742) hx hb dL_law_727 (by decide) (by omega) (fun h => absurd hcd h) (fun _ => ?_)
    refine lv_aload_n hx hb dL_law_730 rfl (lv_at hl 5 rfl) ?_
    refine z_iconst hx hb dL_law_731 ?_
    refine z_lald hx hb hK hP 0 rfl dL_law_732 ?_
    refine lv_iload hx hb dL_law_733 (lv_at hl 0 rfl) ?_
    refine z_i2lw hx hb dL_law_735 ?_
    refine z_lcmp0 hx hb (by rw [if_pos hcd]) dL_law_736 ?_
    refine z_if_eq (tgt := 742) hx hb dL_law_737 (by decide) (by omega) (fun _ => ?_) (fun h => absurd rfl h)
    refine z_goto (tgt := 1231) hx hb dL_law_742 (by decide) ?_
    refine W.widen (k := cells + 8) (n := slots + 1000) (by dsimp only; omega) (by dsimp only; omega) ?_
    exact hn ((zI (rch)).toInt) (cWid (scF xs (i + 1))) cnt most (scF xs (i + 1)) cc tl M C L V Y T CA CB CN CG CS Z K cs H locs ls (inv_wid hI hcd) (lv_sub hl [2, 3, 4, 5, 6] rfl) hP hD hS
  · skip
    rw [if_neg hcd] at hP9 hD9
    obtain ⟨hP, hD⟩ := va_joinP (X := (ol G oa ov :: xL G xx pg ik mx co pa cv ca cb ar ((cs).length : Int) w h (w * h) cnt most rch M C (PPf Y w (w * h)) cc L V (Fof cs)) ++ mdL G md ma mb mc mt m1 m2 m3 m4 m5 m6 m7 th w h cnt most rch tl (cs.length : Int) M Y C T CA CB CN CG CS Z K) (cx := ol G oa ov :: xL G xx pg ik mx co pa cv ca cb ar ((cs).length : Int) w h (w * h) cnt most rch M C (PPf Y w (w * h)) cc L V (Fof cs)) (pl := clAll G cs) (wr := mdL G md ma mb mc mt m1 m2 m3 m4 m5 m6 m7 th w h cnt most rch tl (cs.length : Int) M Y C T CA CB CN CG CS Z K) (rx := ol G oa (ov) :: xL G xx pg ik mx co pa cv ca cb ar ((cs).length : Int) w h (w * h) cnt most rch M C (PPf Y w (w * h)) cc L V (Fof cs)) (pl1 := clAll G (cs)) hP hD [0, 1, 2, 3, 4, 5, 6, 7, 8, 9, 10] [11, 12, 13, 14, 15, 16, 17, 18, 19, 20, 21, 22] rfl rfl rfl (by decide) hk9 hsub9 hP9 hD9
    refine lv_istore (lv' := [(5, .int (zI ((cWid (scF xs (i + 1)))))), (0, .ref b), (1, .ref xx), (2, .ref md), (3, .ref oa), (4, .int (zI (i)))]) hx hb dL_law_700 hl (by decide) rfl (fun ls hl => ?_)
    refine lv_aload_n hx hb dL_law_702 rfl (lv_at hl 3 rfl) ?_
    refine lv_aload_n hx hb dL_law_703 rfl (lv_at hl 1 rfl) ?_
    refine lv_iload hx hb dL_law_704 (lv_at hl 5 rfl) ?_
    refine z_iconst hx hb dL_law_706 ?_
    refine z_iadd hx hb dL_law_707 ?_
    refine z_sld hx hb hX hbl hbA hS ⟨by omega, by omega, by omega⟩ dL_law_708 ?_
    refine z_wVi (G := G) (X := mdL G md ma mb mc mt m1 m2 m3 m4 m5 m6 m7 th w h cnt most rch tl (cs.length : Int) M Y C T CA CB CN CG CS Z K ++ (ol G oa (ov) :: xL G xx pg ik mx co pa cv ca cb ar ((cs).length : Int) w h (w * h) cnt most rch M C (PPf Y w (w * h)) cc L V (Fof cs))) (wc := mdL G md ma mb mc mt m1 m2 m3 m4 m5 m6 m7 th w h cnt most rch tl (cs.length : Int) M Y C T CA CB CN CG CS Z K) (wr := ol G oa (ov) :: xL G xx pg ik mx co pa cv ca cb ar ((cs).length : Int) w h (w * h) cnt most rch M C (PPf Y w (w * h)) cc L V (Fof cs)) (pl := clAll G (cs)) (q0 := 0) (As := [.int (zI ((scF xs (i + 1))))]) (rest := []) hx hb hml hown hT hK (c_X5_width l G md ma mb mc mt m1 m2 m3 m4 m5 m6 m7 th w h cnt most rch tl ((cs.length : Nat) : Int) M Y C T CA CB CN CG CS Z K (scF xs (i + 1)) hI.1 r1) kc_L_111 (by dsimp only; omega) (by dsimp only; omega) hP hD hS hA [0, 1, 2, 3, 4, 5, 6, 7, 8, 9, 10, 11] [12, 13, 14, 15, 16, 17, 18, 19, 20, 21, 22] rfl rfl rfl rfl (by decide) rfl rfl rfl rfl hl.1 rfl (Nat.le_of_ble_eq_true rfl) dL_law_709 (fun u8 H locs hok8 hP hD hS => ?_)
    try dsimp only at hP hD hok8
    try simp only [if_neg hcd] at hP hD
    have hP : zP G (((ol G oa (ov) :: xL G xx pg ik mx co pa cv ca cb ar ((cs).length : Int) w h (w * h) cnt most rch M C (PPf Y w (w * h)) cc L V (Fof cs)) ++ mdL G md ma mb mc mt m1 m2 m3 m4 m5 m6 m7 (cWid (scF xs (i + 1))) w h cnt most rch tl (cs.length : Int) M Y C T CA CB CN CG CS Z K) ++ clAll G (cs)) H := hP
    have hD : va_D A (((ol G oa (ov) :: xL G xx pg ik mx co pa cv ca cb ar ((cs).length : Int) w h (w * h) cnt most rch M C (PPf Y w (w * h)) cc L V (Fof cs)) ++ mdL G md ma mb mc mt m1 m2 m3 m4 m5 m6 m7 (cWid (scF xs (i + 1))) w h cnt most rch tl (cs.length : Int) M Y C T CA CB CN CG CS Z K) ++ clAll G (cs)) := hD
    refine lv_istore (lv' := [(6, .int (zI ((if (cWid (scF xs (i + 1))) = 0 then rch else 0)))), (5, .int (zI ((cWid (scF xs (i + 1)))))), (0, .ref b), (1, .ref xx), (2, .ref md), (3, .ref oa), (4, .int (zI (i)))]) hx hb dL_law_712 hl (by decide) rfl (fun ls hl => ?_)
    refine lv_aload_n hx hb dL_law_714 rfl (lv_at hl 4 rfl) ?_
    refine z_callV (q0 := 0) (G := G) (As := []) (rest := []) hx hb hml hown hT hK (c_X5_thrown l G md ma mb mc mt m1 m2 m3 m4 m5 m6 m7 (cWid (scF xs (i + 1))) w h cnt most rch tl (cs.length : Int) M Y C T CA CB CN CG CS Z K) kc_L_81 (by dsimp only; omega) ⟨rfl, rfl⟩ (by dsimp only; omega) ((zP_left hP).sub [11, 12, 13, 14, 15, 16, 17, 18, 19, 20, 21, 22] rfl) rfl rfl rfl rfl hl.1 rfl (Nat.le_of_ble_eq_true rfl) dL_law_715 ?_
    refine lv_iload hx hb dL_law_718 (lv_at hl 1 rfl) ?_
    refine z_icmp_eq (tgt := 725) hx hb dL_law_720 (by decide) (by omega) (by omega) (fun _ => ?_) (fun h => absurd rfl h)
    refine lv_iload hx hb dL_law_725 (lv_at hl 1 rfl) ?_
    refine z_if_ne (tgt := 742) hx hb dL_law_727 (by decide) (by omega) (fun _ => ?_) (fun h => absurd h hcd)
    refine z_goto (tgt := 1231) hx hb dL_law_742 (by decide) ?_
    refine W.widen (k := cells + 8) (n := slots + 1000) (by dsimp only; omega) (by dsimp only; omega) ?_
    exact hn ov (cWid (scF xs (i + 1))) cnt most rch cc tl M C L V Y T CA CB CN CG CS Z K cs H locs ls (hI) (lv_sub hl [2, 3, 4, 5, 6] rfl) hP hD hS
set_option maxHeartbeats 4000000 in
set_option maxRecDepth 100000 in
theorem law_gain (hc : lawC p l R s m args c G A b Ls xs) (hi : 2 ≤ i ∧ i + 6 ≤ (Ls : Int)) (hI : lInv w h cnt most rch M C cc L V cs tl Y T CN CG CS K) (hl : lv_has ls 8 [(0, .ref b), (1, .ref xx), (2, .ref md), (3, .ref oa), (4, .int (zI i))]) (hP : zP G (lawW G oa xx pg ik mx co pa cv ca cb ar md ma mb mc mt m1 m2 m3 m4 m5 m6 m7 w h ov th cnt most rch cc tl M C L V Y T CA CB CN CG CS Z K cs) H) (hD : va_D A (lawW G oa xx pg ik mx co pa cv ca cb ar md ma mb mc mt m1 m2 m3 m4 m5 m6 m7 w h ov th cnt most rch cc tl M C L V Y T CA CB CN CG CS Z K cs)) (hS : va_S A s.heap H locs) (hcl : cells + 8 ≤ R.cells ∧ slots + 1000 ≤ R.slots) (hn : lawN p l e R s m args below meth c (cells + 8) (slots + 1000) Q G A b oa xx pg ik mx co pa cv ca cb ar md ma mb mc mt m1 m2 m3 m4 m5 m6 m7 i w h) : W p l e R s m args below meth c H locs cells slots Q (F0 m 745 ls []) := by
  obtain ⟨hx, hb, hml, hown, hT, hK, hXz, hN, hX, hbl, hst, hRf, hRl, hA, hbA, hLs⟩ := hc
  have hP : zP G (((ol G oa ov :: xL G xx pg ik mx co pa cv ca cb ar ((cs).length : Int) w h (w * h) cnt most rch M C (PPf Y w (w * h)) cc L V (Fof cs)) ++ mdL G md ma mb mc mt m1 m2 m3 m4 m5 m6 m7 th w h cnt most rch tl (cs.length : Int) M Y C T CA CB CN CG CS Z K) ++ clAll G cs) H := hP
  have hD : va_D A (((ol G oa ov :: xL G xx pg ik mx co pa cv ca cb ar ((cs).length : Int) w h (w * h) cnt most rch M C (PPf Y w (w * h)) cc L V (Fof cs)) ++ mdL G md ma mb mc mt m1 m2 m3 m4 m5 m6 m7 th w h cnt most rch tl (cs.length : Int) M Y C T CA CB CN CG CS Z K) ++ clAll G cs) := hD
  have r1 := scF_r xs (i + 1)
  have r2 := scF_r xs (i + 2)
  refine lv_aload_n hx hb dL_law_745 rfl (lv_at hl 1 rfl) ?_
  refine lv_aload_n hx hb dL_law_746 rfl (lv_at hl 0 rfl) ?_
  refine lv_iload hx hb dL_law_747 (lv_at hl 4 rfl) ?_
  refine z_iconst hx hb dL_law_749 ?_
  refine z_iadd hx hb dL_law_750 ?_
  refine z_sld hx hb hX hbl hbA hS ⟨by omega, by omega, by omega⟩ dL_law_751 ?_
  refine lv_aload_n hx hb dL_law_752 rfl (lv_at hl 0 rfl) ?_
  refine lv_iload hx hb dL_law_753 (lv_at hl 4 rfl) ?_
  refine z_iconst hx hb dL_law_755 ?_
  refine z_iadd hx hb dL_law_756 ?_
  refine z_sld hx hb hX hbl hbA hS ⟨by omega, by omega, by omega⟩ dL_law_757 ?_
  refine z_sH (G := G) (X := (ol G oa ov :: xL G xx pg ik mx co pa cv ca cb ar ((cs).length : Int) w h (w * h) cnt most rch M C (PPf Y w (w * h)) cc L V (Fof cs)) ++ mdL G md ma mb mc mt m1 m2 m3 m4 m5 m6 m7 th w h cnt most rch tl (cs.length : Int) M Y C T CA CB CN CG CS Z K) (cx := ol G oa ov :: xL G xx pg ik mx co pa cv ca cb ar ((cs).length : Int) w h (w * h) cnt most rch M C (PPf Y w (w * h)) cc L V (Fof cs)) (pl := clAll G cs) (As := [.ref xx, .int (zI ((scF xs (i + 1)))), .int (zI ((scF xs (i + 2))))]) (rest := []) hx hb hml hown hT hK (c_L_gain l hst G xx pg ik mx co pa cv ca cb ar ((cs.length : Nat) : Int) w h (w * h) cnt most rch M C (PPf Y w (w * h)) cc L V cs (scF xs (i + 1)) (scF xs (i + 2)) oa ov (lInv_pg hI) hI.2.2.1 (lInv_nx hI) hI.2.2.2.2.1 rfl r1 r2) kh_L_112 (by dsimp only; omega) (by dsimp only; omega) hP hD hS hA hXz hN [0, 1, 2, 3, 4, 5, 6, 7, 8, 9, 10] rfl rfl rfl hl.1 rfl (Nat.le_of_ble_eq_true rfl) dL_law_758 (fun u9 H1 locs1 hok9 hk9 hsub9 hP9 hD9 hS => ?_)
  have hcr : 0 ≤ (cGai (scF xs (i + 1)) (scF xs (i + 2)) (if cc < 12 ∨ L (ffV cc L (scF xs (i + 1))) = (scF xs (i + 1)) then 0 else 1)) ∧ (cGai (scF xs (i + 1)) (scF xs (i + 2)) (if cc < 12 ∨ L (ffV cc L (scF xs (i + 1))) = (scF xs (i + 1)) then 0 else 1)) ≤ 3 := by
    unfold cGai; (repeat' split) <;> omega
  try dsimp only at hP9 hD9 hok9
  by_cases hcd : (cGai (scF xs (i + 1)) (scF xs (i + 2)) (if cc < 12 ∨ L (ffV cc L (scF xs (i + 1))) = (scF xs (i + 1)) then 0 else 1)) = 0
  · skip
    rw [if_pos hcd] at hP9 hD9
    obtain ⟨hP, hD⟩ := va_joinP (X := (ol G oa ov :: xL G xx pg ik mx co pa cv ca cb ar ((cs).length : Int) w h (w * h) cnt most rch M C (PPf Y w (w * h)) cc L V (Fof cs)) ++ mdL G md ma mb mc mt m1 m2 m3 m4 m5 m6 m7 th w h cnt most rch tl (cs.length : Int) M Y C T CA CB CN CG CS Z K) (cx := ol G oa ov :: xL G xx pg ik mx co pa cv ca cb ar ((cs).length : Int) w h (w * h) cnt most rch M C (PPf Y w (w * h)) cc L V (Fof cs)) (pl := clAll G cs) (wr := mdL G md ma mb mc mt m1 m2 m3 m4 m5 m6 m7 th w h cnt most rch tl (cs.length : Int) M Y C T CA CB CN CG CS Z K) (rx := ol G oa (ov) :: xL G xx pg ik mx co pa cv ca cb ar ((cs).length : Int) w h (w * h) cnt most rch M C (PPf Y w (w * h)) (putC cc L (scF xs (i + 1))) (putF cc L (scF xs (i + 1)) L (scF xs (i + 1))) (putF cc L (scF xs (i + 1)) V (scF xs (i + 2))) (Fof cs)) (pl1 := clAll G (cs)) hP hD [0, 1, 2, 3, 4, 5, 6, 7, 8, 9, 10] [11, 12, 13, 14, 15, 16, 17, 18, 19, 20, 21, 22] rfl rfl rfl (by decide) hk9 hsub9 hP9 hD9
    refine lv_istore (lv' := [(5, .int (zI ((cGai (scF xs (i + 1)) (scF xs (i + 2)) (if cc < 12 ∨ L (ffV cc L (scF xs (i + 1))) = (scF xs (i + 1)) then 0 else 1))))), (0, .ref b), (1, .ref xx), (2, .ref md), (3, .ref oa), (4, .int (zI (i)))]) hx hb dL_law_761 hl (by decide) rfl (fun ls hl => ?_)
    refine lv_aload_n hx hb dL_law_763 rfl (lv_at hl 3 rfl) ?_
    refine lv_aload_n hx hb dL_law_764 rfl (lv_at hl 1 rfl) ?_
    refine lv_iload hx hb dL_law_765 (lv_at hl 5 rfl) ?_
    refine z_iconst hx hb dL_law_767 ?_
    refine z_iadd hx hb dL_law_768 ?_
    refine z_sld hx hb hX hbl hbA hS ⟨by omega, by omega, by omega⟩ dL_law_769 ?_
    refine lv_aload_n hx hb dL_law_770 rfl (lv_at hl 1 rfl) ?_
    refine lv_iload hx hb dL_law_771 (lv_at hl 5 rfl) ?_
    refine z_iconst hx hb dL_law_773 ?_
    refine z_iadd hx hb dL_law_774 ?_
    refine z_sld hx hb hX hbl hbA hS ⟨by omega, by omega, by omega⟩ dL_law_775 ?_
    refine z_wVv (G := G) (X := mdL G md ma mb mc mt m1 m2 m3 m4 m5 m6 m7 th w h cnt most rch tl (cs.length : Int) M Y C T CA CB CN CG CS Z K ++ (ol G oa (ov) :: xL G xx pg ik mx co pa cv ca cb ar ((cs).length : Int) w h (w * h) cnt most rch M C (PPf Y w (w * h)) (putC cc L (scF xs (i + 1))) (putF cc L (scF xs (i + 1)) L (scF xs (i + 1))) (putF cc L (scF xs (i + 1)) V (scF xs (i + 2))) (Fof cs))) (wc := mdL G md ma mb mc mt m1 m2 m3 m4 m5 m6 m7 th w h cnt most rch tl (cs.length : Int) M Y C T CA CB CN CG CS Z K) (wr := ol G oa (ov) :: xL G xx pg ik mx co pa cv ca cb ar ((cs).length : Int) w h (w * h) cnt most rch M C (PPf Y w (w * h)) (putC cc L (scF xs (i + 1))) (putF cc L (scF xs (i + 1)) L (scF xs (i + 1))) (putF cc L (scF xs (i + 1)) V (scF xs (i + 2))) (Fof cs)) (pl := clAll G (cs)) (q0 := 0) (As := [.int (zI ((scF xs (i + 1)))), .int (zI ((scF xs (i + 2))))]) (rest := []) hx hb hml hown hT hK (c_X5_gain l G md ma mb mc mt m1 m2 m3 m4 m5 m6 m7 th w h cnt most rch tl ((cs.length : Nat) : Int) M Y C T CA CB CN CG CS Z K (scF xs (i + 1)) (scF xs (i + 2)) hI.1 r1 r2) kc_L_114 (by dsimp only; omega) (by dsimp only; omega) hP hD hS hA [0, 1, 2, 3, 4, 5, 6, 7, 8, 9, 10, 11] [12, 13, 14, 15, 16, 17, 18, 19, 20, 21, 22] rfl rfl rfl rfl (by decide) rfl rfl rfl rfl hl.1 rfl (Nat.le_of_ble_eq_true rfl) dL_law_776 (fun u8 H locs hok8 hP hD hS => ?_)
    try dsimp only at hP hD hok8
    rw [← gai_eq (v := (scF xs (i + 1))) (x := (scF xs (i + 2))) hI] at hP hD
    try simp only [if_pos hcd] at hP hD
    have hP : zP G (((ol G oa (ov) :: xL G xx pg ik mx co pa cv ca cb ar ((cs).length : Int) w h (w * h) cnt most rch M C (PPf Y w (w * h)) (putC cc L (scF xs (i + 1))) (putF cc L (scF xs (i + 1)) L (scF xs (i + 1))) (putF cc L (scF xs (i + 1)) V (scF xs (i + 2))) (Fof cs)) ++ mdL G md ma mb mc mt m1 m2 m3 m4 m5 m6 m7 (cGai (scF xs (i + 1)) (scF xs (i + 2)) (if cc < 12 ∨ L (ffV cc L (scF xs (i + 1))) = (scF xs (i + 1)) then 0 else 1)) w h cnt most rch (tl + (if T (scF xs (i + 1)) = -1 then 1 else 0)) (cs.length : Int) M Y C (zu T (scF xs (i + 1)) (scF xs (i + 2))) CA CB CN CG CS Z K) ++ clAll G (cs)) H := hP
    have hD : va_D A (((ol G oa (ov) :: xL G xx pg ik mx co pa cv ca cb ar ((cs).length : Int) w h (w * h) cnt most rch M C (PPf Y w (w * h)) (putC cc L (scF xs (i + 1))) (putF cc L (scF xs (i + 1)) L (scF xs (i + 1))) (putF cc L (scF xs (i + 1)) V (scF xs (i + 2))) (Fof cs)) ++ mdL G md ma mb mc mt m1 m2 m3 m4 m5 m6 m7 (cGai (scF xs (i + 1)) (scF xs (i + 2)) (if cc < 12 ∨ L (ffV cc L (scF xs (i + 1))) = (scF xs (i + 1)) then 0 else 1)) w h cnt most rch (tl + (if T (scF xs (i + 1)) = -1 then 1 else 0)) (cs.length : Int) M Y C (zu T (scF xs (i + 1)) (scF xs (i + 2))) CA CB CN CG CS Z K) ++ clAll G (cs)) := hD
    refine lv_aload_n hx hb dL_law_779 rfl (lv_at hl 3 rfl) ?_
    refine z_callV (q0 := 0) (G := G) (As := []) (rest := []) hx hb hml hown hT hK (c_X5_thrown l G md ma mb mc mt m1 m2 m3 m4 m5 m6 m7 (cGai (scF xs (i + 1)) (scF xs (i + 2)) (if cc < 12 ∨ L (ffV cc L (scF xs (i + 1))) = (scF xs (i + 1)) then 0 else 1)) w h cnt most rch (tl + (if T (scF xs (i + 1)) = -1 then 1 else 0)) (cs.length : Int) M Y C (zu T (scF xs (i + 1)) (scF xs (i + 2))) CA CB CN CG CS Z K) kc_L_81 (by dsimp only; omega) ⟨rfl, rfl⟩ (by dsimp only; omega) ((zP_left hP).sub [11, 12, 13, 14, 15, 16, 17, 18, 19, 20, 21, 22] rfl) rfl rfl rfl rfl hl.1 rfl (Nat.le_of_ble_eq_true rfl) dL_law_780 ?_
    refine lv_iload hx hb dL_law_783 (lv_at hl 0 rfl) ?_
    refine z_icmp_eq (tgt := 790) hx hb dL_law_785 (by decide) (by omega) (by omega) (fun _ => ?_) (fun h => absurd rfl h)
    refine z_goto (tgt := 1231) hx hb dL_law_790 (by decide) ?_
    refine W.widen (k := cells + 8) (n := slots + 1000) (by dsimp only; omega) (by dsimp only; omega) ?_
    exact hn ov (cGai (scF xs (i + 1)) (scF xs (i + 2)) (if cc < 12 ∨ L (ffV cc L (scF xs (i + 1))) = (scF xs (i + 1)) then 0 else 1)) cnt most rch (putC cc L (scF xs (i + 1))) (tl + (if T (scF xs (i + 1)) = -1 then 1 else 0)) M C (putF cc L (scF xs (i + 1)) L (scF xs (i + 1))) (putF cc L (scF xs (i + 1)) V (scF xs (i + 2))) Y (zu T (scF xs (i + 1)) (scF xs (i + 2))) CA CB CN CG CS Z K cs H locs ls (inv_gai hI hcd) (lv_sub hl [1, 2, 3, 4, 5] rfl) hP hD hS
  · skip
    rw [if_neg hcd] at hP9 hD9
    obtain ⟨hP, hD⟩ := va_joinP (X := (ol G oa ov :: xL G xx pg ik mx co pa cv ca cb ar ((cs).length : Int) w h (w * h) cnt most rch M C (PPf Y w (w * h)) cc L V (Fof cs)) ++ mdL G md ma mb mc mt m1 m2 m3 m4 m5 m6 m7 th w h cnt most rch tl (cs.length : Int) M Y C T CA CB CN CG CS Z K) (cx := ol G oa ov :: xL G xx pg ik mx co pa cv ca cb ar ((cs).length : Int) w h (w * h) cnt most rch M C (PPf Y w (w * h)) cc L V (Fof cs)) (pl := clAll G cs) (wr := mdL G md ma mb mc mt m1 m2 m3 m4 m5 m6 m7 th w h cnt most rch tl (cs.length : Int) M Y C T CA CB CN CG CS Z K) (rx := ol G oa (ov) :: xL G xx pg ik mx co pa cv ca cb ar ((cs).length : Int) w h (w * h) cnt most rch M C (PPf Y w (w * h)) cc L V (Fof cs)) (pl1 := clAll G (cs)) hP hD [0, 1, 2, 3, 4, 5, 6, 7, 8, 9, 10] [11, 12, 13, 14, 15, 16, 17, 18, 19, 20, 21, 22] rfl rfl rfl (by decide) hk9 hsub9 hP9 hD9
    refine lv_istore (lv' := [(5, .int (zI ((cGai (scF xs (i + 1)) (scF xs (i + 2)) (if cc < 12 ∨ L (ffV cc L (scF xs (i + 1))) = (scF xs (i + 1)) then 0 else 1))))), (0, .ref b), (1, .ref xx), (2, .ref md), (3, .ref oa), (4, .int (zI (i)))]) hx hb dL_law_761 hl (by decide) rfl (fun ls hl => ?_)
    refine lv_aload_n hx hb dL_law_763 rfl (lv_at hl 3 rfl) ?_
    refine lv_aload_n hx hb dL_law_764 rfl (lv_at hl 1 rfl) ?_
    refine lv_iload hx hb dL_law_765 (lv_at hl 5 rfl) ?_
    refine z_iconst hx hb dL_law_767 ?_
    refine z_iadd hx hb dL_law_768 ?_
    refine z_sld hx hb hX hbl hbA hS ⟨by omega, by omega, by omega⟩ dL_law_769 ?_
    refine lv_aload_n hx hb dL_law_770 rfl (lv_at hl 1 rfl) ?_
    refine lv_iload hx hb dL_law_771 (lv_at hl 5 rfl) ?_
    refine z_iconst hx hb dL_law_773 ?_
    refine z_iadd hx hb dL_law_774 ?_
    refine z_sld hx hb hX hbl hbA hS ⟨by omega, by omega, by omega⟩ dL_law_775 ?_
    refine z_wVv (G := G) (X := mdL G md ma mb mc mt m1 m2 m3 m4 m5 m6 m7 th w h cnt most rch tl (cs.length : Int) M Y C T CA CB CN CG CS Z K ++ (ol G oa (ov) :: xL G xx pg ik mx co pa cv ca cb ar ((cs).length : Int) w h (w * h) cnt most rch M C (PPf Y w (w * h)) cc L V (Fof cs))) (wc := mdL G md ma mb mc mt m1 m2 m3 m4 m5 m6 m7 th w h cnt most rch tl (cs.length : Int) M Y C T CA CB CN CG CS Z K) (wr := ol G oa (ov) :: xL G xx pg ik mx co pa cv ca cb ar ((cs).length : Int) w h (w * h) cnt most rch M C (PPf Y w (w * h)) cc L V (Fof cs)) (pl := clAll G (cs)) (q0 := 0) (As := [.int (zI ((scF xs (i + 1)))), .int (zI ((scF xs (i + 2))))]) (rest := []) hx hb hml hown hT hK (c_X5_gain l G md ma mb mc mt m1 m2 m3 m4 m5 m6 m7 th w h cnt most rch tl ((cs.length : Nat) : Int) M Y C T CA CB CN CG CS Z K (scF xs (i + 1)) (scF xs (i + 2)) hI.1 r1 r2) kc_L_114 (by dsimp only; omega) (by dsimp only; omega) hP hD hS hA [0, 1, 2, 3, 4, 5, 6, 7, 8, 9, 10, 11] [12, 13, 14, 15, 16, 17, 18, 19, 20, 21, 22] rfl rfl rfl rfl (by decide) rfl rfl rfl rfl hl.1 rfl (Nat.le_of_ble_eq_true rfl) dL_law_776 (fun u8 H locs hok8 hP hD hS => ?_)
    try dsimp only at hP hD hok8
    rw [← gai_eq (v := (scF xs (i + 1))) (x := (scF xs (i + 2))) hI] at hP hD
    try simp only [if_neg hcd] at hP hD
    have hP : zP G (((ol G oa (ov) :: xL G xx pg ik mx co pa cv ca cb ar ((cs).length : Int) w h (w * h) cnt most rch M C (PPf Y w (w * h)) cc L V (Fof cs)) ++ mdL G md ma mb mc mt m1 m2 m3 m4 m5 m6 m7 (cGai (scF xs (i + 1)) (scF xs (i + 2)) (if cc < 12 ∨ L (ffV cc L (scF xs (i + 1))) = (scF xs (i + 1)) then 0 else 1)) w h cnt most rch tl (cs.length : Int) M Y C T CA CB CN CG CS Z K) ++ clAll G (cs)) H := hP
    have hD : va_D A (((ol G oa (ov) :: xL G xx pg ik mx co pa cv ca cb ar ((cs).length : Int) w h (w * h) cnt most rch M C (PPf Y w (w * h)) cc L V (Fof cs)) ++ mdL G md ma mb mc mt m1 m2 m3 m4 m5 m6 m7 (cGai (scF xs (i + 1)) (scF xs (i + 2)) (if cc < 12 ∨ L (ffV cc L (scF xs (i + 1))) = (scF xs (i + 1)) then 0 else 1)) w h cnt most rch tl (cs.length : Int) M Y C T CA CB CN CG CS Z K) ++ clAll G (cs)) := hD
    refine lv_aload_n hx hb dL_law_779 rfl (lv_at hl 3 rfl) ?_
    refine z_callV (q0 := 0) (G := G) (As := []) (rest := []) hx hb hml hown hT hK (c_X5_thrown l G md ma mb mc mt m1 m2 m3 m4 m5 m6 m7 (cGai (scF xs (i + 1)) (scF xs (i + 2)) (if cc < 12 ∨ L (ffV cc L (scF xs (i + 1))) = (scF xs (i + 1)) then 0 else 1)) w h cnt most rch tl (cs.length : Int) M Y C T CA CB CN CG CS Z K) kc_L_81 (by dsimp only; omega) ⟨rfl, rfl⟩ (by dsimp only; omega) ((zP_left hP).sub [11, 12, 13, 14, 15, 16, 17, 18, 19, 20, 21, 22] rfl) rfl rfl rfl rfl hl.1 rfl (Nat.le_of_ble_eq_true rfl) dL_law_780 ?_
    refine lv_iload hx hb dL_law_783 (lv_at hl 0 rfl) ?_
    refine z_icmp_eq (tgt := 790) hx hb dL_law_785 (by decide) (by omega) (by omega) (fun _ => ?_) (fun h => absurd rfl h)
    refine z_goto (tgt := 1231) hx hb dL_law_790 (by decide) ?_
    refine W.widen (k := cells + 8) (n := slots + 1000) (by dsimp only; omega) (by dsimp only; omega) ?_
    exact hn ov (cGai (scF xs (i + 1)) (scF xs (i + 2)) (if cc < 12 ∨ L (ffV cc L (scF xs (i + 1))) = (scF xs (i + 1)) then 0 else 1)) cnt most rch cc tl M C L V Y T CA CB CN CG CS Z K cs H locs ls (hI) (lv_sub hl [1, 2, 3, 4, 5] rfl) hP hD hS
set_option maxHeartbeats 4000000 in
set_option maxRecDepth 100000 in
theorem law_cell (hc : lawC p l R s m args c G A b Ls xs) (hi : 2 ≤ i ∧ i + 6 ≤ (Ls : Int)) (hI : lInv w h cnt most rch M C cc L V cs tl Y T CN CG CS K) (hl : lv_has ls 8 [(0, .ref b), (1, .ref xx), (2, .ref md), (3, .ref oa), (4, .int (zI i))]) (hP : zP G (lawW G oa xx pg ik mx co pa cv ca cb ar md ma mb mc mt m1 m2 m3 m4 m5 m6 m7 w h ov th cnt most rch cc tl M C L V Y T CA CB CN CG CS Z K cs) H) (hD : va_D A (lawW G oa xx pg ik mx co pa cv ca cb ar md ma mb mc mt m1 m2 m3 m4 m5 m6 m7 w h ov th cnt most rch cc tl M C L V Y T CA CB CN CG CS Z K cs)) (hS : va_S A s.heap H locs) (hcl : cells + 8 ≤ R.cells ∧ slots + 1000 ≤ R.slots) (hn : lawN p l e R s m args below meth c (cells + 8) (slots + 1000) Q G A b oa xx pg ik mx co pa cv ca cb ar md ma mb mc mt m1 m2 m3 m4 m5 m6 m7 i w h) : W p l e R s m args below meth c H locs cells slots Q (F0 m 793 ls []) := by
  obtain ⟨hx, hb, hml, hown, hT, hK, hXz, hN, hX, hbl, hst, hRf, hRl, hA, hbA, hLs⟩ := hc
  have hP : zP G (((ol G oa ov :: xL G xx pg ik mx co pa cv ca cb ar ((cs).length : Int) w h (w * h) cnt most rch M C (PPf Y w (w * h)) cc L V (Fof cs)) ++ mdL G md ma mb mc mt m1 m2 m3 m4 m5 m6 m7 th w h cnt most rch tl (cs.length : Int) M Y C T CA CB CN CG CS Z K) ++ clAll G cs) H := hP
  have hD : va_D A (((ol G oa ov :: xL G xx pg ik mx co pa cv ca cb ar ((cs).length : Int) w h (w * h) cnt most rch M C (PPf Y w (w * h)) cc L V (Fof cs)) ++ mdL G md ma mb mc mt m1 m2 m3 m4 m5 m6 m7 th w h cnt most rch tl (cs.length : Int) M Y C T CA CB CN CG CS Z K) ++ clAll G cs) := hD
  have r1 := scF_r xs (i + 1)
  have r2 := scF_r xs (i + 2)
  refine lv_aload_n hx hb dL_law_793 rfl (lv_at hl 1 rfl) ?_
  refine lv_aload_n hx hb dL_law_794 rfl (lv_at hl 0 rfl) ?_
  refine lv_iload hx hb dL_law_795 (lv_at hl 4 rfl) ?_
  refine z_iconst hx hb dL_law_797 ?_
  refine z_iadd hx hb dL_law_798 ?_
  refine z_sld hx hb hX hbl hbA hS ⟨by omega, by omega, by omega⟩ dL_law_799 ?_
  refine lv_aload_n hx hb dL_law_800 rfl (lv_at hl 0 rfl) ?_
  refine lv_iload hx hb dL_law_801 (lv_at hl 4 rfl) ?_
  refine z_iconst hx hb dL_law_803 ?_
  refine z_iadd hx hb dL_law_804 ?_
  refine z_sld hx hb hX hbl hbA hS ⟨by omega, by omega, by omega⟩ dL_law_805 ?_
  refine lv_aload_n hx hb dL_law_806 rfl (lv_at hl 3 rfl) ?_
  refine z_sH (G := G) (X := (ol G oa ov :: xL G xx pg ik mx co pa cv ca cb ar ((cs).length : Int) w h (w * h) cnt most rch M C (PPf Y w (w * h)) cc L V (Fof cs)) ++ mdL G md ma mb mc mt m1 m2 m3 m4 m5 m6 m7 th w h cnt most rch tl (cs.length : Int) M Y C T CA CB CN CG CS Z K) (cx := ol G oa ov :: xL G xx pg ik mx co pa cv ca cb ar ((cs).length : Int) w h (w * h) cnt most rch M C (PPf Y w (w * h)) cc L V (Fof cs)) (pl := clAll G cs) (As := [.ref xx, .int (zI ((scF xs (i + 1)))), .int (zI ((scF xs (i + 2)))), .ref oa]) (rest := []) hx hb hml hown hT hK (c_L_cell_ l hst G xx pg ik mx co pa cv ca cb ar ((cs.length : Nat) : Int) w h (w * h) cnt most rch M C (PPf Y w (w * h)) cc L V cs (scF xs (i + 1)) (scF xs (i + 2)) oa ov (lInv_pg hI) hI.2.2.1 (lInv_nx hI) hI.2.2.2.2.1 rfl r1 r2) kh_L_115 (by dsimp only; omega) (by dsimp only; omega) hP hD hS hA hXz hN [0, 1, 2, 3, 4, 5, 6, 7, 8, 9, 10] rfl rfl rfl hl.1 rfl (Nat.le_of_ble_eq_true rfl) dL_law_807 (fun u9 H1 locs1 hok9 hk9 hsub9 hP9 hD9 hS => ?_)
  have hcr : 0 ≤ (cCel (scF xs (i + 1)) (scF xs (i + 2)) ((cs.length : Nat) : Int)) ∧ (cCel (scF xs (i + 1)) (scF xs (i + 2)) ((cs.length : Nat) : Int)) ≤ 3 := by
    unfold cCel; (repeat' split) <;> omega
  try dsimp only at hP9 hD9 hok9
  by_cases hcd : (cCel (scF xs (i + 1)) (scF xs (i + 2)) ((cs.length : Nat) : Int)) = 0
  · skip
    rw [if_pos hcd] at hP9 hD9
    obtain ⟨hP, hD⟩ := va_joinP (X := (ol G oa ov :: xL G xx pg ik mx co pa cv ca cb ar ((cs).length : Int) w h (w * h) cnt most rch M C (PPf Y w (w * h)) cc L V (Fof cs)) ++ mdL G md ma mb mc mt m1 m2 m3 m4 m5 m6 m7 th w h cnt most rch tl (cs.length : Int) M Y C T CA CB CN CG CS Z K) (cx := ol G oa ov :: xL G xx pg ik mx co pa cv ca cb ar ((cs).length : Int) w h (w * h) cnt most rch M C (PPf Y w (w * h)) cc L V (Fof cs)) (pl := clAll G cs) (wr := mdL G md ma mb mc mt m1 m2 m3 m4 m5 m6 m7 th w h cnt most rch tl (cs.length : Int) M Y C T CA CB CN CG CS Z K) (rx := ol G oa ((zI (((cs.length : Nat) : Int))).toInt) :: xL G xx pg ik mx co pa cv ca cb ar (((cs.length : Nat) : Int) + 1) w h (w * h) cnt most rch M C (PPf Y w (w * h)) cc L V (Fof (cs ++ [cNew u9.1 u9.2.1 (scF xs (i + 1)) (scF xs (i + 2)) u9.2.2]))) (pl1 := clAll G ((cs ++ [cNew u9.1 u9.2.1 (scF xs (i + 1)) (scF xs (i + 2)) u9.2.2]))) hP hD [0, 1, 2, 3, 4, 5, 6, 7, 8, 9, 10] [11, 12, 13, 14, 15, 16, 17, 18, 19, 20, 21, 22] rfl rfl rfl (by decide) hk9 hsub9 hP9 hD9
    refine lv_istore (lv' := [(5, .int (zI ((cCel (scF xs (i + 1)) (scF xs (i + 2)) ((cs.length : Nat) : Int))))), (0, .ref b), (1, .ref xx), (2, .ref md), (3, .ref oa), (4, .int (zI (i)))]) hx hb dL_law_810 hl (by decide) rfl (fun ls hl => ?_)
    refine lv_aload_n hx hb dL_law_812 rfl (lv_at hl 3 rfl) ?_
    refine lv_aload_n hx hb dL_law_813 rfl (lv_at hl 1 rfl) ?_
    refine lv_iload hx hb dL_law_814 (lv_at hl 5 rfl) ?_
    refine z_iconst hx hb dL_law_816 ?_
    refine z_iadd hx hb dL_law_817 ?_
    refine z_sld hx hb hX hbl hbA hS ⟨by omega, by omega, by omega⟩ dL_law_818 ?_
    refine lv_aload_n hx hb dL_law_819 rfl (lv_at hl 1 rfl) ?_
    refine lv_iload hx hb dL_law_820 (lv_at hl 5 rfl) ?_
    refine z_iconst hx hb dL_law_822 ?_
    refine z_iadd hx hb dL_law_823 ?_
    refine z_sld hx hb hX hbl hbA hS ⟨by omega, by omega, by omega⟩ dL_law_824 ?_
    refine z_wVi (G := G) (X := mdL G md ma mb mc mt m1 m2 m3 m4 m5 m6 m7 th w h cnt most rch tl (cs.length : Int) M Y C T CA CB CN CG CS Z K ++ (ol G oa ((zI (((cs.length : Nat) : Int))).toInt) :: xL G xx pg ik mx co pa cv ca cb ar (((cs.length : Nat) : Int) + 1) w h (w * h) cnt most rch M C (PPf Y w (w * h)) cc L V (Fof (cs ++ [cNew u9.1 u9.2.1 (scF xs (i + 1)) (scF xs (i + 2)) u9.2.2])))) (wc := mdL G md ma mb mc mt m1 m2 m3 m4 m5 m6 m7 th w h cnt most rch tl (cs.length : Int) M Y C T CA CB CN CG CS Z K) (wr := ol G oa ((zI (((cs.length : Nat) : Int))).toInt) :: xL G xx pg ik mx co pa cv ca cb ar (((cs.length : Nat) : Int) + 1) w h (w * h) cnt most rch M C (PPf Y w (w * h)) cc L V (Fof (cs ++ [cNew u9.1 u9.2.1 (scF xs (i + 1)) (scF xs (i + 2)) u9.2.2]))) (pl := clAll G ((cs ++ [cNew u9.1 u9.2.1 (scF xs (i + 1)) (scF xs (i + 2)) u9.2.2]))) (q0 := 0) (As := [.int (zI ((scF xs (i + 1)))), .int (zI ((scF xs (i + 2))))]) (rest := []) hx hb hml hown hT hK (c_X5_cell l G md ma mb mc mt m1 m2 m3 m4 m5 m6 m7 th w h cnt most rch tl ((cs.length : Nat) : Int) M Y C T CA CB CN CG CS Z K (scF xs (i + 1)) (scF xs (i + 2)) hI.1 r1 r2) kc_L_117 (by dsimp only; omega) (by dsimp only; omega) hP hD hS hA [0, 1, 2, 3, 4, 5, 6, 7, 8, 9, 10, 11] [12, 13, 14, 15, 16, 17, 18, 19, 20, 21, 22] rfl rfl rfl rfl (by decide) rfl rfl rfl rfl hl.1 rfl (Nat.le_of_ble_eq_true rfl) dL_law_825 (fun u8 H locs hok8 hP hD hS => ?_)
    try dsimp only at hP hD hok8
    try simp only [if_pos hcd] at hP hD
    have hP : zP G (((ol G oa ((zI (((cs.length : Nat) : Int))).toInt) :: xL G xx pg ik mx co pa cv ca cb ar (((cs.length : Nat) : Int) + 1) w h (w * h) cnt most rch M C (PPf Y w (w * h)) cc L V (Fof (cs ++ [cNew u9.1 u9.2.1 (scF xs (i + 1)) (scF xs (i + 2)) u9.2.2]))) ++ mdL G md ma mb mc mt m1 m2 m3 m4 m5 m6 m7 (cCel (scF xs (i + 1)) (scF xs (i + 2)) ((cs.length : Nat) : Int)) w h cnt most rch tl (((cs.length : Nat) : Int) + 1) M Y C T (zu CA ((cs.length : Nat) : Int) (scF xs (i + 1))) (zu CB ((cs.length : Nat) : Int) (scF xs (i + 2))) (zu CN ((cs.length : Nat) : Int) ((scF xs (i + 1)) * (scF xs (i + 1)) + (scF xs (i + 2)) * (scF xs (i + 2)))) (zu CG ((cs.length : Nat) : Int) (cdR (scF xs (i + 1)) (scF xs (i + 2)) 11)) (zu CS ((cs.length : Nat) : Int) (fiR (scF xs (i + 1)) (scF xs (i + 2)) (cdR (scF xs (i + 1)) (scF xs (i + 2)) 11) 25)) (ZS Z (300 * ((cs.length : Nat) : Int)) ((scF xs (i + 1)) * (scF xs (i + 1)) + (scF xs (i + 2)) * (scF xs (i + 2))) u8) (ZS K (300 * ((cs.length : Nat) : Int)) ((scF xs (i + 1)) * (scF xs (i + 1)) + (scF xs (i + 2)) * (scF xs (i + 2))) (rkF u8 ((scF xs (i + 1)) * (scF xs (i + 1)) + (scF xs (i + 2)) * (scF xs (i + 2)))))) ++ clAll G ((cs ++ [cNew u9.1 u9.2.1 (scF xs (i + 1)) (scF xs (i + 2)) u9.2.2]))) H := hP
    have hD : va_D A (((ol G oa ((zI (((cs.length : Nat) : Int))).toInt) :: xL G xx pg ik mx co pa cv ca cb ar (((cs.length : Nat) : Int) + 1) w h (w * h) cnt most rch M C (PPf Y w (w * h)) cc L V (Fof (cs ++ [cNew u9.1 u9.2.1 (scF xs (i + 1)) (scF xs (i + 2)) u9.2.2]))) ++ mdL G md ma mb mc mt m1 m2 m3 m4 m5 m6 m7 (cCel (scF xs (i + 1)) (scF xs (i + 2)) ((cs.length : Nat) : Int)) w h cnt most rch tl (((cs.length : Nat) : Int) + 1) M Y C T (zu CA ((cs.length : Nat) : Int) (scF xs (i + 1))) (zu CB ((cs.length : Nat) : Int) (scF xs (i + 2))) (zu CN ((cs.length : Nat) : Int) ((scF xs (i + 1)) * (scF xs (i + 1)) + (scF xs (i + 2)) * (scF xs (i + 2)))) (zu CG ((cs.length : Nat) : Int) (cdR (scF xs (i + 1)) (scF xs (i + 2)) 11)) (zu CS ((cs.length : Nat) : Int) (fiR (scF xs (i + 1)) (scF xs (i + 2)) (cdR (scF xs (i + 1)) (scF xs (i + 2)) 11) 25)) (ZS Z (300 * ((cs.length : Nat) : Int)) ((scF xs (i + 1)) * (scF xs (i + 1)) + (scF xs (i + 2)) * (scF xs (i + 2))) u8) (ZS K (300 * ((cs.length : Nat) : Int)) ((scF xs (i + 1)) * (scF xs (i + 1)) + (scF xs (i + 2)) * (scF xs (i + 2))) (rkF u8 ((scF xs (i + 1)) * (scF xs (i + 1)) + (scF xs (i + 2)) * (scF xs (i + 2)))))) ++ clAll G ((cs ++ [cNew u9.1 u9.2.1 (scF xs (i + 1)) (scF xs (i + 2)) u9.2.2]))) := hD
    refine lv_istore (lv' := [(6, .int (zI ((if (cCel (scF xs (i + 1)) (scF xs (i + 2)) ((cs.length : Nat) : Int)) = 0 then ((cs.length : Nat) : Int) else 0)))), (5, .int (zI ((cCel (scF xs (i + 1)) (scF xs (i + 2)) ((cs.length : Nat) : Int))))), (0, .ref b), (1, .ref xx), (2, .ref md), (3, .ref oa), (4, .int (zI (i)))]) hx hb dL_law_828 hl (by decide) rfl (fun ls hl => ?_)
    refine lv_aload_n hx hb dL_law_830 rfl (lv_at hl 4 rfl) ?_
    refine z_callV (q0 := 0) (G := G) (As := []) (rest := []) hx hb hml hown hT hK (c_X5_thrown l G md ma mb mc mt m1 m2 m3 m4 m5 m6 m7 (cCel (scF xs (i + 1)) (scF xs (i + 2)) ((cs.length : Nat) : Int)) w h cnt most rch tl (((cs.length : Nat) : Int) + 1) M Y C T (zu CA ((cs.length : Nat) : Int) (scF xs (i + 1))) (zu CB ((cs.length : Nat) : Int) (scF xs (i + 2))) (zu CN ((cs.length : Nat) : Int) ((scF xs (i + 1)) * (scF xs (i + 1)) + (scF xs (i + 2)) * (scF xs (i + 2)))) (zu CG ((cs.length : Nat) : Int) (cdR (scF xs (i + 1)) (scF xs (i + 2)) 11)) (zu CS ((cs.length : Nat) : Int) (fiR (scF xs (i + 1)) (scF xs (i + 2)) (cdR (scF xs (i + 1)) (scF xs (i + 2)) 11) 25)) (ZS Z (300 * ((cs.length : Nat) : Int)) ((scF xs (i + 1)) * (scF xs (i + 1)) + (scF xs (i + 2)) * (scF xs (i + 2))) u8) (ZS K (300 * ((cs.length : Nat) : Int)) ((scF xs (i + 1)) * (scF xs (i + 1)) + (scF xs (i + 2)) * (scF xs (i + 2))) (rkF u8 ((scF xs (i + 1)) * (scF xs (i + 1)) + (scF xs (i + 2)) * (scF xs (i + 2)))))) kc_L_81 (by dsimp only; omega) ⟨rfl, rfl⟩ (by dsimp only; omega) ((zP_left hP).sub [11, 12, 13, 14, 15, 16, 17, 18, 19, 20, 21, 22] rfl) rfl rfl rfl rfl hl.1 rfl (Nat.le_of_ble_eq_true rfl) dL_law_831 ?_
    refine lv_iload hx hb dL_law_834 (lv_at hl 1 rfl) ?_
    refine z_icmp_eq (tgt := 841) hx hb dL_law_836 (by decide) (by omega) (by omega) (fun _ => ?_) (fun h => absurd rfl h)
    refine lv_iload hx hb dL_law_841 (lv_at hl 1 rfl) ?_
    refine z_if_ne (tgt := 858) hx hb dL_law_843 (by decide) (by omega) (fun h => absurd hcd h) (fun _ => ?_)
    refine lv_aload_n hx hb dL_law_846 rfl (lv_at hl 5 rfl) ?_
    refine z_iconst hx hb dL_law_847 ?_
    refine z_lald hx hb hK hP 0 rfl dL_law_848 ?_
    refine lv_iload hx hb dL_law_849 (lv_at hl 0 rfl) ?_
    refine z_i2lw hx hb dL_law_851 ?_
    refine z_lcmp0 hx hb (by rw [if_pos hcd]) dL_law_852 ?_
    refine z_if_eq (tgt := 858) hx hb dL_law_853 (by decide) (by omega) (fun _ => ?_) (fun h => absurd rfl h)
    refine z_goto (tgt := 1231) hx hb dL_law_858 (by decide) ?_
    refine W.widen (k := cells + 8) (n := slots + 1000) (by dsimp only; omega) (by dsimp only; omega) ?_
    have hlen : ((((cs ++ [cNew u9.1 u9.2.1 (scF xs (i + 1)) (scF xs (i + 2)) u9.2.2])).length : Nat) : Int) = ((cs.length : Nat) : Int) + 1 := by rw [List.length_append]; rfl
    rw [← hlen] at hP hD
    exact hn ((zI (((cs.length : Nat) : Int))).toInt) (cCel (scF xs (i + 1)) (scF xs (i + 2)) ((cs.length : Nat) : Int)) cnt most rch cc tl M C L V Y T (zu CA ((cs.length : Nat) : Int) (scF xs (i + 1))) (zu CB ((cs.length : Nat) : Int) (scF xs (i + 2))) (zu CN ((cs.length : Nat) : Int) ((scF xs (i + 1)) * (scF xs (i + 1)) + (scF xs (i + 2)) * (scF xs (i + 2)))) (zu CG ((cs.length : Nat) : Int) (cdR (scF xs (i + 1)) (scF xs (i + 2)) 11)) (zu CS ((cs.length : Nat) : Int) (fiR (scF xs (i + 1)) (scF xs (i + 2)) (cdR (scF xs (i + 1)) (scF xs (i + 2)) 11) 25)) (ZS Z (300 * ((cs.length : Nat) : Int)) ((scF xs (i + 1)) * (scF xs (i + 1)) + (scF xs (i + 2)) * (scF xs (i + 2))) u8) (ZS K (300 * ((cs.length : Nat) : Int)) ((scF xs (i + 1)) * (scF xs (i + 1)) + (scF xs (i + 2)) * (scF xs (i + 2))) (rkF u8 ((scF xs (i + 1)) * (scF xs (i + 1)) + (scF xs (i + 2)) * (scF xs (i + 2))))) (cs ++ [cNew u9.1 u9.2.1 (scF xs (i + 1)) (scF xs (i + 2)) u9.2.2]) H locs ls (inv_cel hI hcd (hok9 hcd) (hok8 hcd)) (lv_sub hl [2, 3, 4, 5, 6] rfl) hP hD hS
  · skip
    rw [if_neg hcd] at hP9 hD9
    obtain ⟨hP, hD⟩ := va_joinP (X := (ol G oa ov :: xL G xx pg ik mx co pa cv ca cb ar ((cs).length : Int) w h (w * h) cnt most rch M C (PPf Y w (w * h)) cc L V (Fof cs)) ++ mdL G md ma mb mc mt m1 m2 m3 m4 m5 m6 m7 th w h cnt most rch tl (cs.length : Int) M Y C T CA CB CN CG CS Z K) (cx := ol G oa ov :: xL G xx pg ik mx co pa cv ca cb ar ((cs).length : Int) w h (w * h) cnt most rch M C (PPf Y w (w * h)) cc L V (Fof cs)) (pl := clAll G cs) (wr := mdL G md ma mb mc mt m1 m2 m3 m4 m5 m6 m7 th w h cnt most rch tl (cs.length : Int) M Y C T CA CB CN CG CS Z K) (rx := ol G oa (ov) :: xL G xx pg ik mx co pa cv ca cb ar ((cs).length : Int) w h (w * h) cnt most rch M C (PPf Y w (w * h)) cc L V (Fof cs)) (pl1 := clAll G (cs)) hP hD [0, 1, 2, 3, 4, 5, 6, 7, 8, 9, 10] [11, 12, 13, 14, 15, 16, 17, 18, 19, 20, 21, 22] rfl rfl rfl (by decide) hk9 hsub9 hP9 hD9
    refine lv_istore (lv' := [(5, .int (zI ((cCel (scF xs (i + 1)) (scF xs (i + 2)) ((cs.length : Nat) : Int))))), (0, .ref b), (1, .ref xx), (2, .ref md), (3, .ref oa), (4, .int (zI (i)))]) hx hb dL_law_810 hl (by decide) rfl (fun ls hl => ?_)
    refine lv_aload_n hx hb dL_law_812 rfl (lv_at hl 3 rfl) ?_
    refine lv_aload_n hx hb dL_law_813 rfl (lv_at hl 1 rfl) ?_
    refine lv_iload hx hb dL_law_814 (lv_at hl 5 rfl) ?_
    refine z_iconst hx hb dL_law_816 ?_
    refine z_iadd hx hb dL_law_817 ?_
    refine z_sld hx hb hX hbl hbA hS ⟨by omega, by omega, by omega⟩ dL_law_818 ?_
    refine lv_aload_n hx hb dL_law_819 rfl (lv_at hl 1 rfl) ?_
    refine lv_iload hx hb dL_law_820 (lv_at hl 5 rfl) ?_
    refine z_iconst hx hb dL_law_822 ?_
    refine z_iadd hx hb dL_law_823 ?_
    refine z_sld hx hb hX hbl hbA hS ⟨by omega, by omega, by omega⟩ dL_law_824 ?_
    refine z_wVi (G := G) (X := mdL G md ma mb mc mt m1 m2 m3 m4 m5 m6 m7 th w h cnt most rch tl (cs.length : Int) M Y C T CA CB CN CG CS Z K ++ (ol G oa (ov) :: xL G xx pg ik mx co pa cv ca cb ar ((cs).length : Int) w h (w * h) cnt most rch M C (PPf Y w (w * h)) cc L V (Fof cs))) (wc := mdL G md ma mb mc mt m1 m2 m3 m4 m5 m6 m7 th w h cnt most rch tl (cs.length : Int) M Y C T CA CB CN CG CS Z K) (wr := ol G oa (ov) :: xL G xx pg ik mx co pa cv ca cb ar ((cs).length : Int) w h (w * h) cnt most rch M C (PPf Y w (w * h)) cc L V (Fof cs)) (pl := clAll G (cs)) (q0 := 0) (As := [.int (zI ((scF xs (i + 1)))), .int (zI ((scF xs (i + 2))))]) (rest := []) hx hb hml hown hT hK (c_X5_cell l G md ma mb mc mt m1 m2 m3 m4 m5 m6 m7 th w h cnt most rch tl ((cs.length : Nat) : Int) M Y C T CA CB CN CG CS Z K (scF xs (i + 1)) (scF xs (i + 2)) hI.1 r1 r2) kc_L_117 (by dsimp only; omega) (by dsimp only; omega) hP hD hS hA [0, 1, 2, 3, 4, 5, 6, 7, 8, 9, 10, 11] [12, 13, 14, 15, 16, 17, 18, 19, 20, 21, 22] rfl rfl rfl rfl (by decide) rfl rfl rfl rfl hl.1 rfl (Nat.le_of_ble_eq_true rfl) dL_law_825 (fun u8 H locs hok8 hP hD hS => ?_)
    try dsimp only at hP hD hok8
    try simp only [if_neg hcd] at hP hD
    have hP : zP G (((ol G oa (ov) :: xL G xx pg ik mx co pa cv ca cb ar ((cs).length : Int) w h (w * h) cnt most rch M C (PPf Y w (w * h)) cc L V (Fof cs)) ++ mdL G md ma mb mc mt m1 m2 m3 m4 m5 m6 m7 (cCel (scF xs (i + 1)) (scF xs (i + 2)) ((cs.length : Nat) : Int)) w h cnt most rch tl (cs.length : Int) M Y C T CA CB CN CG CS Z K) ++ clAll G (cs)) H := hP
    have hD : va_D A (((ol G oa (ov) :: xL G xx pg ik mx co pa cv ca cb ar ((cs).length : Int) w h (w * h) cnt most rch M C (PPf Y w (w * h)) cc L V (Fof cs)) ++ mdL G md ma mb mc mt m1 m2 m3 m4 m5 m6 m7 (cCel (scF xs (i + 1)) (scF xs (i + 2)) ((cs.length : Nat) : Int)) w h cnt most rch tl (cs.length : Int) M Y C T CA CB CN CG CS Z K) ++ clAll G (cs)) := hD
    refine lv_istore (lv' := [(6, .int (zI ((if (cCel (scF xs (i + 1)) (scF xs (i + 2)) ((cs.length : Nat) : Int)) = 0 then ((cs.length : Nat) : Int) else 0)))), (5, .int (zI ((cCel (scF xs (i + 1)) (scF xs (i + 2)) ((cs.length : Nat) : Int))))), (0, .ref b), (1, .ref xx), (2, .ref md), (3, .ref oa), (4, .int (zI (i)))]) hx hb dL_law_828 hl (by decide) rfl (fun ls hl => ?_)
    refine lv_aload_n hx hb dL_law_830 rfl (lv_at hl 4 rfl) ?_
    refine z_callV (q0 := 0) (G := G) (As := []) (rest := []) hx hb hml hown hT hK (c_X5_thrown l G md ma mb mc mt m1 m2 m3 m4 m5 m6 m7 (cCel (scF xs (i + 1)) (scF xs (i + 2)) ((cs.length : Nat) : Int)) w h cnt most rch tl (cs.length : Int) M Y C T CA CB CN CG CS Z K) kc_L_81 (by dsimp only; omega) ⟨rfl, rfl⟩ (by dsimp only; omega) ((zP_left hP).sub [11, 12, 13, 14, 15, 16, 17, 18, 19, 20, 21, 22] rfl) rfl rfl rfl rfl hl.1 rfl (Nat.le_of_ble_eq_true rfl) dL_law_831 ?_
    refine lv_iload hx hb dL_law_834 (lv_at hl 1 rfl) ?_
    refine z_icmp_eq (tgt := 841) hx hb dL_law_836 (by decide) (by omega) (by omega) (fun _ => ?_) (fun h => absurd rfl h)
    refine lv_iload hx hb dL_law_841 (lv_at hl 1 rfl) ?_
    refine z_if_ne (tgt := 858) hx hb dL_law_843 (by decide) (by omega) (fun _ => ?_) (fun h => absurd h hcd)
    refine z_goto (tgt := 1231) hx hb dL_law_858 (by decide) ?_
    refine W.widen (k := cells + 8) (n := slots + 1000) (by dsimp only; omega) (by dsimp only; omega) ?_
    exact hn ov (cCel (scF xs (i + 1)) (scF xs (i + 2)) ((cs.length : Nat) : Int)) cnt most rch cc tl M C L V Y T CA CB CN CG CS Z K cs H locs ls (hI) (lv_sub hl [2, 3, 4, 5, 6] rfl) hP hD hS
set_option maxHeartbeats 4000000 in
set_option maxRecDepth 100000 in
theorem law_rank (hc : lawC p l R s m args c G A b Ls xs) (hi : 2 ≤ i ∧ i + 6 ≤ (Ls : Int)) (hI : lInv w h cnt most rch M C cc L V cs tl Y T CN CG CS K) (hl : lv_has ls 8 [(0, .ref b), (1, .ref xx), (2, .ref md), (3, .ref oa), (4, .int (zI i))]) (hP : zP G (lawW G oa xx pg ik mx co pa cv ca cb ar md ma mb mc mt m1 m2 m3 m4 m5 m6 m7 w h ov th cnt most rch cc tl M C L V Y T CA CB CN CG CS Z K cs) H) (hD : va_D A (lawW G oa xx pg ik mx co pa cv ca cb ar md ma mb mc mt m1 m2 m3 m4 m5 m6 m7 w h ov th cnt most rch cc tl M C L V Y T CA CB CN CG CS Z K cs)) (hS : va_S A s.heap H locs) (hcl : cells + 8 ≤ R.cells ∧ slots + 1000 ≤ R.slots) (hn : lawN p l e R s m args below meth c (cells + 8) (slots + 1000) Q G A b oa xx pg ik mx co pa cv ca cb ar md ma mb mc mt m1 m2 m3 m4 m5 m6 m7 i w h) : W p l e R s m args below meth c H locs cells slots Q (F0 m 861 ls []) := by
  obtain ⟨hx, hb, hml, hown, hT, hK, hXz, hN, hX, hbl, hst, hRf, hRl, hA, hbA, hLs⟩ := hc
  have hP : zP G (((ol G oa ov :: xL G xx pg ik mx co pa cv ca cb ar ((cs).length : Int) w h (w * h) cnt most rch M C (PPf Y w (w * h)) cc L V (Fof cs)) ++ mdL G md ma mb mc mt m1 m2 m3 m4 m5 m6 m7 th w h cnt most rch tl (cs.length : Int) M Y C T CA CB CN CG CS Z K) ++ clAll G cs) H := hP
  have hD : va_D A (((ol G oa ov :: xL G xx pg ik mx co pa cv ca cb ar ((cs).length : Int) w h (w * h) cnt most rch M C (PPf Y w (w * h)) cc L V (Fof cs)) ++ mdL G md ma mb mc mt m1 m2 m3 m4 m5 m6 m7 th w h cnt most rch tl (cs.length : Int) M Y C T CA CB CN CG CS Z K) ++ clAll G cs) := hD
  have r1 := scF_r xs (i + 1)
  have r2 := scF_r xs (i + 2)
  refine lv_aload_n hx hb dL_law_861 rfl (lv_at hl 1 rfl) ?_
  refine lv_aload_n hx hb dL_law_862 rfl (lv_at hl 0 rfl) ?_
  refine lv_iload hx hb dL_law_863 (lv_at hl 4 rfl) ?_
  refine z_iconst hx hb dL_law_865 ?_
  refine z_iadd hx hb dL_law_866 ?_
  refine z_sld hx hb hX hbl hbA hS ⟨by omega, by omega, by omega⟩ dL_law_867 ?_
  refine lv_aload_n hx hb dL_law_868 rfl (lv_at hl 0 rfl) ?_
  refine lv_iload hx hb dL_law_869 (lv_at hl 4 rfl) ?_
  refine z_iconst hx hb dL_law_871 ?_
  refine z_iadd hx hb dL_law_872 ?_
  refine z_sld hx hb hX hbl hbA hS ⟨by omega, by omega, by omega⟩ dL_law_873 ?_
  refine lv_aload_n hx hb dL_law_874 rfl (lv_at hl 3 rfl) ?_
  refine z_sH (G := G) (X := (ol G oa ov :: xL G xx pg ik mx co pa cv ca cb ar ((cs).length : Int) w h (w * h) cnt most rch M C (PPf Y w (w * h)) cc L V (Fof cs)) ++ mdL G md ma mb mc mt m1 m2 m3 m4 m5 m6 m7 th w h cnt most rch tl (cs.length : Int) M Y C T CA CB CN CG CS Z K) (cx := ol G oa ov :: xL G xx pg ik mx co pa cv ca cb ar ((cs).length : Int) w h (w * h) cnt most rch M C (PPf Y w (w * h)) cc L V (Fof cs)) (pl := clAll G cs) (As := [.ref xx, .int (zI ((scF xs (i + 1)))), .int (zI ((scF xs (i + 2)))), .ref oa]) (rest := []) hx hb hml hown hT hK (c_L_rank l hst G xx pg ik mx co pa cv ca cb ar ((cs.length : Nat) : Int) w h (w * h) cnt most rch M C (PPf Y w (w * h)) cc L V cs (scF xs (i + 1)) (scF xs (i + 2)) oa ov (lInv_pg hI) hI.2.2.1 (lInv_nx hI) hI.2.2.2.2.1 rfl r1 r2) kh_L_118 (by dsimp only; omega) (by dsimp only; omega) hP hD hS hA hXz hN [0, 1, 2, 3, 4, 5, 6, 7, 8, 9, 10] rfl rfl rfl hl.1 rfl (Nat.le_of_ble_eq_true rfl) dL_law_875 (fun u9 H1 locs1 hok9 hk9 hsub9 hP9 hD9 hS => ?_)
  have hcr : 0 ≤ (cRan (scF xs (i + 1)) (scF xs (i + 2)) ((cs.length : Nat) : Int) ((cAt cs (scF xs (i + 1))).2.2.1 : Int)) ∧ (cRan (scF xs (i + 1)) (scF xs (i + 2)) ((cs.length : Nat) : Int) ((cAt cs (scF xs (i + 1))).2.2.1 : Int)) ≤ 3 := by
    unfold cRan; (repeat' split) <;> omega
  try dsimp only at hP9 hD9 hok9
  by_cases hcd : (cRan (scF xs (i + 1)) (scF xs (i + 2)) ((cs.length : Nat) : Int) ((cAt cs (scF xs (i + 1))).2.2.1 : Int)) = 0
  · skip
    rw [if_pos hcd] at hP9 hD9
    obtain ⟨hP, hD⟩ := va_joinP (X := (ol G oa ov :: xL G xx pg ik mx co pa cv ca cb ar ((cs).length : Int) w h (w * h) cnt most rch M C (PPf Y w (w * h)) cc L V (Fof cs)) ++ mdL G md ma mb mc mt m1 m2 m3 m4 m5 m6 m7 th w h cnt most rch tl (cs.length : Int) M Y C T CA CB CN CG CS Z K) (cx := ol G oa ov :: xL G xx pg ik mx co pa cv ca cb ar ((cs).length : Int) w h (w * h) cnt most rch M C (PPf Y w (w * h)) cc L V (Fof cs)) (pl := clAll G cs) (wr := mdL G md ma mb mc mt m1 m2 m3 m4 m5 m6 m7 th w h cnt most rch tl (cs.length : Int) M Y C T CA CB CN CG CS Z K) (rx := ol G oa ((zI ((if (scF xs (i + 2)) = -1 then ((cAt cs (scF xs (i + 1))).2.2.1 : Int) else (cAt cs (scF xs (i + 1))).2.2.2.2.2.2 (scF xs (i + 2))))).toInt) :: xL G xx pg ik mx co pa cv ca cb ar ((cs).length : Int) w h (w * h) cnt most rch M C (PPf Y w (w * h)) cc L V (Fof cs)) (pl1 := clAll G (cs)) hP hD [0, 1, 2, 3, 4, 5, 6, 7, 8, 9, 10] [11, 12, 13, 14, 15, 16, 17, 18, 19, 20, 21, 22] rfl rfl rfl (by decide) hk9 hsub9 hP9 hD9
    refine lv_istore (lv' := [(5, .int (zI ((cRan (scF xs (i + 1)) (scF xs (i + 2)) ((cs.length : Nat) : Int) ((cAt cs (scF xs (i + 1))).2.2.1 : Int))))), (0, .ref b), (1, .ref xx), (2, .ref md), (3, .ref oa), (4, .int (zI (i)))]) hx hb dL_law_878 hl (by decide) rfl (fun ls hl => ?_)
    refine lv_aload_n hx hb dL_law_880 rfl (lv_at hl 3 rfl) ?_
    refine lv_aload_n hx hb dL_law_881 rfl (lv_at hl 1 rfl) ?_
    refine lv_iload hx hb dL_law_882 (lv_at hl 5 rfl) ?_
    refine z_iconst hx hb dL_law_884 ?_
    refine z_iadd hx hb dL_law_885 ?_
    refine z_sld hx hb hX hbl hbA hS ⟨by omega, by omega, by omega⟩ dL_law_886 ?_
    refine lv_aload_n hx hb dL_law_887 rfl (lv_at hl 1 rfl) ?_
    refine lv_iload hx hb dL_law_888 (lv_at hl 5 rfl) ?_
    refine z_iconst hx hb dL_law_890 ?_
    refine z_iadd hx hb dL_law_891 ?_
    refine z_sld hx hb hX hbl hbA hS ⟨by omega, by omega, by omega⟩ dL_law_892 ?_
    refine z_wVi (G := G) (X := mdL G md ma mb mc mt m1 m2 m3 m4 m5 m6 m7 th w h cnt most rch tl (cs.length : Int) M Y C T CA CB CN CG CS Z K ++ (ol G oa ((zI ((if (scF xs (i + 2)) = -1 then ((cAt cs (scF xs (i + 1))).2.2.1 : Int) else (cAt cs (scF xs (i + 1))).2.2.2.2.2.2 (scF xs (i + 2))))).toInt) :: xL G xx pg ik mx co pa cv ca cb ar ((cs).length : Int) w h (w * h) cnt most rch M C (PPf Y w (w * h)) cc L V (Fof cs))) (wc := mdL G md ma mb mc mt m1 m2 m3 m4 m5 m6 m7 th w h cnt most rch tl (cs.length : Int) M Y C T CA CB CN CG CS Z K) (wr := ol G oa ((zI ((if (scF xs (i + 2)) = -1 then ((cAt cs (scF xs (i + 1))).2.2.1 : Int) else (cAt cs (scF xs (i + 1))).2.2.2.2.2.2 (scF xs (i + 2))))).toInt) :: xL G xx pg ik mx co pa cv ca cb ar ((cs).length : Int) w h (w * h) cnt most rch M C (PPf Y w (w * h)) cc L V (Fof cs)) (pl := clAll G (cs)) (q0 := 0) (As := [.int (zI ((scF xs (i + 1)))), .int (zI ((scF xs (i + 2))))]) (rest := []) hx hb hml hown hT hK (c_X5_rank l G md ma mb mc mt m1 m2 m3 m4 m5 m6 m7 th w h cnt most rch tl ((cs.length : Nat) : Int) M Y C T CA CB CN CG CS Z K (scF xs (i + 1)) (scF xs (i + 2)) hI.1 r1 r2 (fun _ _ => hI.2.2.2.2.2.1 _)) kc_L_120 (by dsimp only; omega) (by dsimp only; omega) hP hD hS hA [0, 1, 2, 3, 4, 5, 6, 7, 8, 9, 10, 11] [12, 13, 14, 15, 16, 17, 18, 19, 20, 21, 22] rfl rfl rfl rfl (by decide) rfl rfl rfl rfl hl.1 rfl (Nat.le_of_ble_eq_true rfl) dL_law_893 (fun u8 H locs hok8 hP hD hS => ?_)
    try dsimp only at hP hD hok8
    rw [← (ran_eq (c9 := (scF xs (i + 1))) (i := (scF xs (i + 2))) hI).1] at hP hD
    try simp only [if_pos hcd] at hP hD
    have hP : zP G (((ol G oa ((zI ((if (scF xs (i + 2)) = -1 then ((cAt cs (scF xs (i + 1))).2.2.1 : Int) else (cAt cs (scF xs (i + 1))).2.2.2.2.2.2 (scF xs (i + 2))))).toInt) :: xL G xx pg ik mx co pa cv ca cb ar ((cs).length : Int) w h (w * h) cnt most rch M C (PPf Y w (w * h)) cc L V (Fof cs)) ++ mdL G md ma mb mc mt m1 m2 m3 m4 m5 m6 m7 (cRan (scF xs (i + 1)) (scF xs (i + 2)) ((cs.length : Nat) : Int) ((cAt cs (scF xs (i + 1))).2.2.1 : Int)) w h cnt most rch tl (cs.length : Int) M Y C T CA CB CN CG CS Z K) ++ clAll G (cs)) H := hP
    have hD : va_D A (((ol G oa ((zI ((if (scF xs (i + 2)) = -1 then ((cAt cs (scF xs (i + 1))).2.2.1 : Int) else (cAt cs (scF xs (i + 1))).2.2.2.2.2.2 (scF xs (i + 2))))).toInt) :: xL G xx pg ik mx co pa cv ca cb ar ((cs).length : Int) w h (w * h) cnt most rch M C (PPf Y w (w * h)) cc L V (Fof cs)) ++ mdL G md ma mb mc mt m1 m2 m3 m4 m5 m6 m7 (cRan (scF xs (i + 1)) (scF xs (i + 2)) ((cs.length : Nat) : Int) ((cAt cs (scF xs (i + 1))).2.2.1 : Int)) w h cnt most rch tl (cs.length : Int) M Y C T CA CB CN CG CS Z K) ++ clAll G (cs)) := hD
    refine lv_istore (lv' := [(6, .int (zI ((if cRan (scF xs (i + 1)) (scF xs (i + 2)) ((cs.length : Nat) : Int) (CN (scF xs (i + 1))) = 0 then (if (scF xs (i + 2)) = -1 then CN (scF xs (i + 1)) else K (300 * (scF xs (i + 1)) + (scF xs (i + 2)))) else 0)))), (5, .int (zI ((cRan (scF xs (i + 1)) (scF xs (i + 2)) ((cs.length : Nat) : Int) ((cAt cs (scF xs (i + 1))).2.2.1 : Int))))), (0, .ref b), (1, .ref xx), (2, .ref md), (3, .ref oa), (4, .int (zI (i)))]) hx hb dL_law_896 hl (by decide) rfl (fun ls hl => ?_)
    refine lv_aload_n hx hb dL_law_898 rfl (lv_at hl 4 rfl) ?_
    refine z_callV (q0 := 0) (G := G) (As := []) (rest := []) hx hb hml hown hT hK (c_X5_thrown l G md ma mb mc mt m1 m2 m3 m4 m5 m6 m7 (cRan (scF xs (i + 1)) (scF xs (i + 2)) ((cs.length : Nat) : Int) ((cAt cs (scF xs (i + 1))).2.2.1 : Int)) w h cnt most rch tl (cs.length : Int) M Y C T CA CB CN CG CS Z K) kc_L_81 (by dsimp only; omega) ⟨rfl, rfl⟩ (by dsimp only; omega) ((zP_left hP).sub [11, 12, 13, 14, 15, 16, 17, 18, 19, 20, 21, 22] rfl) rfl rfl rfl rfl hl.1 rfl (Nat.le_of_ble_eq_true rfl) dL_law_899 ?_
    refine lv_iload hx hb dL_law_902 (lv_at hl 1 rfl) ?_
    refine z_icmp_eq (tgt := 909) hx hb dL_law_904 (by decide) (by omega) (by omega) (fun _ => ?_) (fun h => absurd rfl h)
    refine lv_iload hx hb dL_law_909 (lv_at hl 1 rfl) ?_
    refine z_if_ne (tgt := 926) hx hb dL_law_911 (by decide) (by omega) (fun h => absurd hcd h) (fun _ => ?_)
    refine lv_aload_n hx hb dL_law_914 rfl (lv_at hl 5 rfl) ?_
    refine z_iconst hx hb dL_law_915 ?_
    refine z_lald hx hb hK hP 0 rfl dL_law_916 ?_
    refine lv_iload hx hb dL_law_917 (lv_at hl 0 rfl) ?_
    refine z_i2lw hx hb dL_law_919 ?_
    refine z_lcmp0 hx hb (by rw [← (ran_eq (c9 := (scF xs (i + 1))) (i := (scF xs (i + 2))) hI).1, if_pos hcd, (ran_eq (c9 := (scF xs (i + 1))) (i := (scF xs (i + 2))) hI).2 hcd]) dL_law_920 ?_
    refine z_if_eq (tgt := 926) hx hb dL_law_921 (by decide) (by omega) (fun _ => ?_) (fun h => absurd rfl h)
    refine z_goto (tgt := 1231) hx hb dL_law_926 (by decide) ?_
    refine W.widen (k := cells + 8) (n := slots + 1000) (by dsimp only; omega) (by dsimp only; omega) ?_
    exact hn ((zI ((if (scF xs (i + 2)) = -1 then ((cAt cs (scF xs (i + 1))).2.2.1 : Int) else (cAt cs (scF xs (i + 1))).2.2.2.2.2.2 (scF xs (i + 2))))).toInt) (cRan (scF xs (i + 1)) (scF xs (i + 2)) ((cs.length : Nat) : Int) ((cAt cs (scF xs (i + 1))).2.2.1 : Int)) cnt most rch cc tl M C L V Y T CA CB CN CG CS Z K cs H locs ls (hI) (lv_sub hl [2, 3, 4, 5, 6] rfl) hP hD hS
  · skip
    rw [if_neg hcd] at hP9 hD9
    obtain ⟨hP, hD⟩ := va_joinP (X := (ol G oa ov :: xL G xx pg ik mx co pa cv ca cb ar ((cs).length : Int) w h (w * h) cnt most rch M C (PPf Y w (w * h)) cc L V (Fof cs)) ++ mdL G md ma mb mc mt m1 m2 m3 m4 m5 m6 m7 th w h cnt most rch tl (cs.length : Int) M Y C T CA CB CN CG CS Z K) (cx := ol G oa ov :: xL G xx pg ik mx co pa cv ca cb ar ((cs).length : Int) w h (w * h) cnt most rch M C (PPf Y w (w * h)) cc L V (Fof cs)) (pl := clAll G cs) (wr := mdL G md ma mb mc mt m1 m2 m3 m4 m5 m6 m7 th w h cnt most rch tl (cs.length : Int) M Y C T CA CB CN CG CS Z K) (rx := ol G oa (ov) :: xL G xx pg ik mx co pa cv ca cb ar ((cs).length : Int) w h (w * h) cnt most rch M C (PPf Y w (w * h)) cc L V (Fof cs)) (pl1 := clAll G (cs)) hP hD [0, 1, 2, 3, 4, 5, 6, 7, 8, 9, 10] [11, 12, 13, 14, 15, 16, 17, 18, 19, 20, 21, 22] rfl rfl rfl (by decide) hk9 hsub9 hP9 hD9
    refine lv_istore (lv' := [(5, .int (zI ((cRan (scF xs (i + 1)) (scF xs (i + 2)) ((cs.length : Nat) : Int) ((cAt cs (scF xs (i + 1))).2.2.1 : Int))))), (0, .ref b), (1, .ref xx), (2, .ref md), (3, .ref oa), (4, .int (zI (i)))]) hx hb dL_law_878 hl (by decide) rfl (fun ls hl => ?_)
    refine lv_aload_n hx hb dL_law_880 rfl (lv_at hl 3 rfl) ?_
    refine lv_aload_n hx hb dL_law_881 rfl (lv_at hl 1 rfl) ?_
    refine lv_iload hx hb dL_law_882 (lv_at hl 5 rfl) ?_
    refine z_iconst hx hb dL_law_884 ?_
    refine z_iadd hx hb dL_law_885 ?_
    refine z_sld hx hb hX hbl hbA hS ⟨by omega, by omega, by omega⟩ dL_law_886 ?_
    refine lv_aload_n hx hb dL_law_887 rfl (lv_at hl 1 rfl) ?_
    refine lv_iload hx hb dL_law_888 (lv_at hl 5 rfl) ?_
    refine z_iconst hx hb dL_law_890 ?_
    refine z_iadd hx hb dL_law_891 ?_
    refine z_sld hx hb hX hbl hbA hS ⟨by omega, by omega, by omega⟩ dL_law_892 ?_
    refine z_wVi (G := G) (X := mdL G md ma mb mc mt m1 m2 m3 m4 m5 m6 m7 th w h cnt most rch tl (cs.length : Int) M Y C T CA CB CN CG CS Z K ++ (ol G oa (ov) :: xL G xx pg ik mx co pa cv ca cb ar ((cs).length : Int) w h (w * h) cnt most rch M C (PPf Y w (w * h)) cc L V (Fof cs))) (wc := mdL G md ma mb mc mt m1 m2 m3 m4 m5 m6 m7 th w h cnt most rch tl (cs.length : Int) M Y C T CA CB CN CG CS Z K) (wr := ol G oa (ov) :: xL G xx pg ik mx co pa cv ca cb ar ((cs).length : Int) w h (w * h) cnt most rch M C (PPf Y w (w * h)) cc L V (Fof cs)) (pl := clAll G (cs)) (q0 := 0) (As := [.int (zI ((scF xs (i + 1)))), .int (zI ((scF xs (i + 2))))]) (rest := []) hx hb hml hown hT hK (c_X5_rank l G md ma mb mc mt m1 m2 m3 m4 m5 m6 m7 th w h cnt most rch tl ((cs.length : Nat) : Int) M Y C T CA CB CN CG CS Z K (scF xs (i + 1)) (scF xs (i + 2)) hI.1 r1 r2 (fun _ _ => hI.2.2.2.2.2.1 _)) kc_L_120 (by dsimp only; omega) (by dsimp only; omega) hP hD hS hA [0, 1, 2, 3, 4, 5, 6, 7, 8, 9, 10, 11] [12, 13, 14, 15, 16, 17, 18, 19, 20, 21, 22] rfl rfl rfl rfl (by decide) rfl rfl rfl rfl hl.1 rfl (Nat.le_of_ble_eq_true rfl) dL_law_893 (fun u8 H locs hok8 hP hD hS => ?_)
    try dsimp only at hP hD hok8
    rw [← (ran_eq (c9 := (scF xs (i + 1))) (i := (scF xs (i + 2))) hI).1] at hP hD
    try simp only [if_neg hcd] at hP hD
    have hP : zP G (((ol G oa (ov) :: xL G xx pg ik mx co pa cv ca cb ar ((cs).length : Int) w h (w * h) cnt most rch M C (PPf Y w (w * h)) cc L V (Fof cs)) ++ mdL G md ma mb mc mt m1 m2 m3 m4 m5 m6 m7 (cRan (scF xs (i + 1)) (scF xs (i + 2)) ((cs.length : Nat) : Int) ((cAt cs (scF xs (i + 1))).2.2.1 : Int)) w h cnt most rch tl (cs.length : Int) M Y C T CA CB CN CG CS Z K) ++ clAll G (cs)) H := hP
    have hD : va_D A (((ol G oa (ov) :: xL G xx pg ik mx co pa cv ca cb ar ((cs).length : Int) w h (w * h) cnt most rch M C (PPf Y w (w * h)) cc L V (Fof cs)) ++ mdL G md ma mb mc mt m1 m2 m3 m4 m5 m6 m7 (cRan (scF xs (i + 1)) (scF xs (i + 2)) ((cs.length : Nat) : Int) ((cAt cs (scF xs (i + 1))).2.2.1 : Int)) w h cnt most rch tl (cs.length : Int) M Y C T CA CB CN CG CS Z K) ++ clAll G (cs)) := hD
    refine lv_istore (lv' := [(6, .int (zI ((if cRan (scF xs (i + 1)) (scF xs (i + 2)) ((cs.length : Nat) : Int) (CN (scF xs (i + 1))) = 0 then (if (scF xs (i + 2)) = -1 then CN (scF xs (i + 1)) else K (300 * (scF xs (i + 1)) + (scF xs (i + 2)))) else 0)))), (5, .int (zI ((cRan (scF xs (i + 1)) (scF xs (i + 2)) ((cs.length : Nat) : Int) ((cAt cs (scF xs (i + 1))).2.2.1 : Int))))), (0, .ref b), (1, .ref xx), (2, .ref md), (3, .ref oa), (4, .int (zI (i)))]) hx hb dL_law_896 hl (by decide) rfl (fun ls hl => ?_)
    refine lv_aload_n hx hb dL_law_898 rfl (lv_at hl 4 rfl) ?_
    refine z_callV (q0 := 0) (G := G) (As := []) (rest := []) hx hb hml hown hT hK (c_X5_thrown l G md ma mb mc mt m1 m2 m3 m4 m5 m6 m7 (cRan (scF xs (i + 1)) (scF xs (i + 2)) ((cs.length : Nat) : Int) ((cAt cs (scF xs (i + 1))).2.2.1 : Int)) w h cnt most rch tl (cs.length : Int) M Y C T CA CB CN CG CS Z K) kc_L_81 (by dsimp only; omega) ⟨rfl, rfl⟩ (by dsimp only; omega) ((zP_left hP).sub [11, 12, 13, 14, 15, 16, 17, 18, 19, 20, 21, 22] rfl) rfl rfl rfl rfl hl.1 rfl (Nat.le_of_ble_eq_true rfl) dL_law_899 ?_
    refine lv_iload hx hb dL_law_902 (lv_at hl 1 rfl) ?_
    refine z_icmp_eq (tgt := 909) hx hb dL_law_904 (by decide) (by omega) (by omega) (fun _ => ?_) (fun h => absurd rfl h)
    refine lv_iload hx hb dL_law_909 (lv_at hl 1 rfl) ?_
    refine z_if_ne (tgt := 926) hx hb dL_law_911 (by decide) (by omega) (fun _ => ?_) (fun h => absurd h hcd)
    refine z_goto (tgt := 1231) hx hb dL_law_926 (by decide) ?_
    refine W.widen (k := cells + 8) (n := slots + 1000) (by dsimp only; omega) (by dsimp only; omega) ?_
    exact hn ov (cRan (scF xs (i + 1)) (scF xs (i + 2)) ((cs.length : Nat) : Int) ((cAt cs (scF xs (i + 1))).2.2.1 : Int)) cnt most rch cc tl M C L V Y T CA CB CN CG CS Z K cs H locs ls (hI) (lv_sub hl [2, 3, 4, 5, 6] rfl) hP hD hS
set_option maxHeartbeats 4000000 in
set_option maxRecDepth 100000 in
theorem law_same (hc : lawC p l R s m args c G A b Ls xs) (hi : 2 ≤ i ∧ i + 6 ≤ (Ls : Int)) (hI : lInv w h cnt most rch M C cc L V cs tl Y T CN CG CS K) (hl : lv_has ls 8 [(0, .ref b), (1, .ref xx), (2, .ref md), (3, .ref oa), (4, .int (zI i))]) (hP : zP G (lawW G oa xx pg ik mx co pa cv ca cb ar md ma mb mc mt m1 m2 m3 m4 m5 m6 m7 w h ov th cnt most rch cc tl M C L V Y T CA CB CN CG CS Z K cs) H) (hD : va_D A (lawW G oa xx pg ik mx co pa cv ca cb ar md ma mb mc mt m1 m2 m3 m4 m5 m6 m7 w h ov th cnt most rch cc tl M C L V Y T CA CB CN CG CS Z K cs)) (hS : va_S A s.heap H locs) (hcl : cells + 8 ≤ R.cells ∧ slots + 1000 ≤ R.slots) (hn : lawN p l e R s m args below meth c (cells + 8) (slots + 1000) Q G A b oa xx pg ik mx co pa cv ca cb ar md ma mb mc mt m1 m2 m3 m4 m5 m6 m7 i w h) : W p l e R s m args below meth c H locs cells slots Q (F0 m 929 ls []) := by
  obtain ⟨hx, hb, hml, hown, hT, hK, hXz, hN, hX, hbl, hst, hRf, hRl, hA, hbA, hLs⟩ := hc
  have hP : zP G (((ol G oa ov :: xL G xx pg ik mx co pa cv ca cb ar ((cs).length : Int) w h (w * h) cnt most rch M C (PPf Y w (w * h)) cc L V (Fof cs)) ++ mdL G md ma mb mc mt m1 m2 m3 m4 m5 m6 m7 th w h cnt most rch tl (cs.length : Int) M Y C T CA CB CN CG CS Z K) ++ clAll G cs) H := hP
  have hD : va_D A (((ol G oa ov :: xL G xx pg ik mx co pa cv ca cb ar ((cs).length : Int) w h (w * h) cnt most rch M C (PPf Y w (w * h)) cc L V (Fof cs)) ++ mdL G md ma mb mc mt m1 m2 m3 m4 m5 m6 m7 th w h cnt most rch tl (cs.length : Int) M Y C T CA CB CN CG CS Z K) ++ clAll G cs) := hD
  have r1 := scF_r xs (i + 1)
  have r2 := scF_r xs (i + 2)
  have r3 := scF_r xs (i + 3)
  refine lv_aload_n hx hb dL_law_929 rfl (lv_at hl 1 rfl) ?_
  refine lv_aload_n hx hb dL_law_930 rfl (lv_at hl 0 rfl) ?_
  refine lv_iload hx hb dL_law_931 (lv_at hl 4 rfl) ?_
  refine z_iconst hx hb dL_law_933 ?_
  refine z_iadd hx hb dL_law_934 ?_
  refine z_sld hx hb hX hbl hbA hS ⟨by omega, by omega, by omega⟩ dL_law_935 ?_
  refine lv_aload_n hx hb dL_law_936 rfl (lv_at hl 0 rfl) ?_
  refine lv_iload hx hb dL_law_937 (lv_at hl 4 rfl) ?_
  refine z_iconst hx hb dL_law_939 ?_
  refine z_iadd hx hb dL_law_940 ?_
  refine z_sld hx hb hX hbl hbA hS ⟨by omega, by omega, by omega⟩ dL_law_941 ?_
  refine lv_aload_n hx hb dL_law_942 rfl (lv_at hl 0 rfl) ?_
  refine lv_iload hx hb dL_law_943 (lv_at hl 4 rfl) ?_
  refine z_iconst hx hb dL_law_945 ?_
  refine z_iadd hx hb dL_law_946 ?_
  refine z_sld hx hb hX hbl hbA hS ⟨by omega, by omega, by omega⟩ dL_law_947 ?_
  refine lv_aload_n hx hb dL_law_948 rfl (lv_at hl 3 rfl) ?_
  refine z_sH (G := G) (X := (ol G oa ov :: xL G xx pg ik mx co pa cv ca cb ar ((cs).length : Int) w h (w * h) cnt most rch M C (PPf Y w (w * h)) cc L V (Fof cs)) ++ mdL G md ma mb mc mt m1 m2 m3 m4 m5 m6 m7 th w h cnt most rch tl (cs.length : Int) M Y C T CA CB CN CG CS Z K) (cx := ol G oa ov :: xL G xx pg ik mx co pa cv ca cb ar ((cs).length : Int) w h (w * h) cnt most rch M C (PPf Y w (w * h)) cc L V (Fof cs)) (pl := clAll G cs) (As := [.ref xx, .int (zI ((scF xs (i + 1)))), .int (zI ((scF xs (i + 2)))), .int (zI ((scF xs (i + 3)))), .ref oa]) (rest := []) hx hb hml hown hT hK (c_L_same l hst G xx pg ik mx co pa cv ca cb ar ((cs.length : Nat) : Int) w h (w * h) cnt most rch M C (PPf Y w (w * h)) cc L V cs (scF xs (i + 1)) (scF xs (i + 2)) (scF xs (i + 3)) oa ov (lInv_pg hI) hI.2.2.1 (lInv_nx hI) hI.2.2.2.2.1 rfl r1 r2 r3) kh_L_121 (by dsimp only; omega) (by dsimp only; omega) hP hD hS hA hXz hN [0, 1, 2, 3, 4, 5, 6, 7, 8, 9, 10] rfl rfl rfl hl.1 rfl (Nat.le_of_ble_eq_true rfl) dL_law_949 (fun u9 H1 locs1 hok9 hk9 hsub9 hP9 hD9 hS => ?_)
  have hcr : 0 ≤ (cSam (scF xs (i + 1)) (scF xs (i + 2)) (scF xs (i + 3)) ((cs.length : Nat) : Int)) ∧ (cSam (scF xs (i + 1)) (scF xs (i + 2)) (scF xs (i + 3)) ((cs.length : Nat) : Int)) ≤ 3 := by
    unfold cSam; (repeat' split) <;> omega
  try dsimp only at hP9 hD9 hok9
  by_cases hcd : (cSam (scF xs (i + 1)) (scF xs (i + 2)) (scF xs (i + 3)) ((cs.length : Nat) : Int)) = 0
  · skip
    rw [if_pos hcd] at hP9 hD9
    obtain ⟨hP, hD⟩ := va_joinP (X := (ol G oa ov :: xL G xx pg ik mx co pa cv ca cb ar ((cs).length : Int) w h (w * h) cnt most rch M C (PPf Y w (w * h)) cc L V (Fof cs)) ++ mdL G md ma mb mc mt m1 m2 m3 m4 m5 m6 m7 th w h cnt most rch tl (cs.length : Int) M Y C T CA CB CN CG CS Z K) (cx := ol G oa ov :: xL G xx pg ik mx co pa cv ca cb ar ((cs).length : Int) w h (w * h) cnt most rch M C (PPf Y w (w * h)) cc L V (Fof cs)) (pl := clAll G cs) (wr := mdL G md ma mb mc mt m1 m2 m3 m4 m5 m6 m7 th w h cnt most rch tl (cs.length : Int) M Y C T CA CB CN CG CS Z K) (rx := ol G oa ((zI ((nmV (cAt cs (scF xs (i + 1))).2.2.2.1 (cAt cs (scF xs (i + 1))).2.2.2.2.1 (cAt cs (scF xs (i + 1))).2.2.2.2.2.1 (scF xs (i + 2)) (scF xs (i + 3))))).toInt) :: xL G xx pg ik mx co pa cv ca cb ar ((cs).length : Int) w h (w * h) cnt most rch M C (PPf Y w (w * h)) cc L V (Fof cs)) (pl1 := clAll G (cs)) hP hD [0, 1, 2, 3, 4, 5, 6, 7, 8, 9, 10] [11, 12, 13, 14, 15, 16, 17, 18, 19, 20, 21, 22] rfl rfl rfl (by decide) hk9 hsub9 hP9 hD9
    refine lv_istore (lv' := [(5, .int (zI ((cSam (scF xs (i + 1)) (scF xs (i + 2)) (scF xs (i + 3)) ((cs.length : Nat) : Int))))), (0, .ref b), (1, .ref xx), (2, .ref md), (3, .ref oa), (4, .int (zI (i)))]) hx hb dL_law_952 hl (by decide) rfl (fun ls hl => ?_)
    refine lv_aload_n hx hb dL_law_954 rfl (lv_at hl 3 rfl) ?_
    refine lv_aload_n hx hb dL_law_955 rfl (lv_at hl 1 rfl) ?_
    refine lv_iload hx hb dL_law_956 (lv_at hl 5 rfl) ?_
    refine z_iconst hx hb dL_law_958 ?_
    refine z_iadd hx hb dL_law_959 ?_
    refine z_sld hx hb hX hbl hbA hS ⟨by omega, by omega, by omega⟩ dL_law_960 ?_
    refine lv_aload_n hx hb dL_law_961 rfl (lv_at hl 1 rfl) ?_
    refine lv_iload hx hb dL_law_962 (lv_at hl 5 rfl) ?_
    refine z_iconst hx hb dL_law_964 ?_
    refine z_iadd hx hb dL_law_965 ?_
    refine z_sld hx hb hX hbl hbA hS ⟨by omega, by omega, by omega⟩ dL_law_966 ?_
    refine lv_aload_n hx hb dL_law_967 rfl (lv_at hl 1 rfl) ?_
    refine lv_iload hx hb dL_law_968 (lv_at hl 5 rfl) ?_
    refine z_iconst hx hb dL_law_970 ?_
    refine z_iadd hx hb dL_law_971 ?_
    refine z_sld hx hb hX hbl hbA hS ⟨by omega, by omega, by omega⟩ dL_law_972 ?_
    refine z_wVi (G := G) (X := mdL G md ma mb mc mt m1 m2 m3 m4 m5 m6 m7 th w h cnt most rch tl (cs.length : Int) M Y C T CA CB CN CG CS Z K ++ (ol G oa ((zI ((nmV (cAt cs (scF xs (i + 1))).2.2.2.1 (cAt cs (scF xs (i + 1))).2.2.2.2.1 (cAt cs (scF xs (i + 1))).2.2.2.2.2.1 (scF xs (i + 2)) (scF xs (i + 3))))).toInt) :: xL G xx pg ik mx co pa cv ca cb ar ((cs).length : Int) w h (w * h) cnt most rch M C (PPf Y w (w * h)) cc L V (Fof cs))) (wc := mdL G md ma mb mc mt m1 m2 m3 m4 m5 m6 m7 th w h cnt most rch tl (cs.length : Int) M Y C T CA CB CN CG CS Z K) (wr := ol G oa ((zI ((nmV (cAt cs (scF xs (i + 1))).2.2.2.1 (cAt cs (scF xs (i + 1))).2.2.2.2.1 (cAt cs (scF xs (i + 1))).2.2.2.2.2.1 (scF xs (i + 2)) (scF xs (i + 3))))).toInt) :: xL G xx pg ik mx co pa cv ca cb ar ((cs).length : Int) w h (w * h) cnt most rch M C (PPf Y w (w * h)) cc L V (Fof cs)) (pl := clAll G (cs)) (q0 := 0) (As := [.int (zI ((scF xs (i + 1)))), .int (zI ((scF xs (i + 2)))), .int (zI ((scF xs (i + 3))))]) (rest := []) hx hb hml hown hT hK (c_X5_same l G md ma mb mc mt m1 m2 m3 m4 m5 m6 m7 th w h cnt most rch tl ((cs.length : Nat) : Int) M Y C T CA CB CN CG CS Z K (scF xs (i + 1)) (scF xs (i + 2)) (scF xs (i + 3)) hI.1 r1 r2 r3) kc_L_124 (by dsimp only; omega) (by dsimp only; omega) hP hD hS hA [0, 1, 2, 3, 4, 5, 6, 7, 8, 9, 10, 11] [12, 13, 14, 15, 16, 17, 18, 19, 20, 21, 22] rfl rfl rfl rfl (by decide) rfl rfl rfl rfl hl.1 rfl (Nat.le_of_ble_eq_true rfl) dL_law_973 (fun u8 H locs hok8 hP hD hS => ?_)
    try dsimp only at hP hD hok8
    try simp only [if_pos hcd] at hP hD
    have hP : zP G (((ol G oa ((zI ((nmV (cAt cs (scF xs (i + 1))).2.2.2.1 (cAt cs (scF xs (i + 1))).2.2.2.2.1 (cAt cs (scF xs (i + 1))).2.2.2.2.2.1 (scF xs (i + 2)) (scF xs (i + 3))))).toInt) :: xL G xx pg ik mx co pa cv ca cb ar ((cs).length : Int) w h (w * h) cnt most rch M C (PPf Y w (w * h)) cc L V (Fof cs)) ++ mdL G md ma mb mc mt m1 m2 m3 m4 m5 m6 m7 (cSam (scF xs (i + 1)) (scF xs (i + 2)) (scF xs (i + 3)) ((cs.length : Nat) : Int)) w h cnt most rch tl (cs.length : Int) M Y C T CA CB CN CG CS Z K) ++ clAll G (cs)) H := hP
    have hD : va_D A (((ol G oa ((zI ((nmV (cAt cs (scF xs (i + 1))).2.2.2.1 (cAt cs (scF xs (i + 1))).2.2.2.2.1 (cAt cs (scF xs (i + 1))).2.2.2.2.2.1 (scF xs (i + 2)) (scF xs (i + 3))))).toInt) :: xL G xx pg ik mx co pa cv ca cb ar ((cs).length : Int) w h (w * h) cnt most rch M C (PPf Y w (w * h)) cc L V (Fof cs)) ++ mdL G md ma mb mc mt m1 m2 m3 m4 m5 m6 m7 (cSam (scF xs (i + 1)) (scF xs (i + 2)) (scF xs (i + 3)) ((cs.length : Nat) : Int)) w h cnt most rch tl (cs.length : Int) M Y C T CA CB CN CG CS Z K) ++ clAll G (cs)) := hD
    refine lv_istore (lv' := [(6, .int (zI ((if (cSam (scF xs (i + 1)) (scF xs (i + 2)) (scF xs (i + 3)) ((cs.length : Nat) : Int)) = 0 then (nmV (CG (scF xs (i + 1))) (CN (scF xs (i + 1)) / CG (scF xs (i + 1))) (CS (scF xs (i + 1))) (scF xs (i + 2)) (scF xs (i + 3))) else 0)))), (5, .int (zI ((cSam (scF xs (i + 1)) (scF xs (i + 2)) (scF xs (i + 3)) ((cs.length : Nat) : Int))))), (0, .ref b), (1, .ref xx), (2, .ref md), (3, .ref oa), (4, .int (zI (i)))]) hx hb dL_law_976 hl (by decide) rfl (fun ls hl => ?_)
    refine lv_aload_n hx hb dL_law_978 rfl (lv_at hl 4 rfl) ?_
    refine z_callV (q0 := 0) (G := G) (As := []) (rest := []) hx hb hml hown hT hK (c_X5_thrown l G md ma mb mc mt m1 m2 m3 m4 m5 m6 m7 (cSam (scF xs (i + 1)) (scF xs (i + 2)) (scF xs (i + 3)) ((cs.length : Nat) : Int)) w h cnt most rch tl (cs.length : Int) M Y C T CA CB CN CG CS Z K) kc_L_81 (by dsimp only; omega) ⟨rfl, rfl⟩ (by dsimp only; omega) ((zP_left hP).sub [11, 12, 13, 14, 15, 16, 17, 18, 19, 20, 21, 22] rfl) rfl rfl rfl rfl hl.1 rfl (Nat.le_of_ble_eq_true rfl) dL_law_979 ?_
    refine lv_iload hx hb dL_law_982 (lv_at hl 1 rfl) ?_
    refine z_icmp_eq (tgt := 989) hx hb dL_law_984 (by decide) (by omega) (by omega) (fun _ => ?_) (fun h => absurd rfl h)
    refine lv_iload hx hb dL_law_989 (lv_at hl 1 rfl) ?_
    refine z_if_ne (tgt := 1006) hx hb dL_law_991 (by decide) (by omega) (fun h => absurd hcd h) (fun _ => ?_)
    refine lv_aload_n hx hb dL_law_994 rfl (lv_at hl 5 rfl) ?_
    refine z_iconst hx hb dL_law_995 ?_
    refine z_lald hx hb hK hP 0 rfl dL_law_996 ?_
    refine lv_iload hx hb dL_law_997 (lv_at hl 0 rfl) ?_
    refine z_i2lw hx hb dL_law_999 ?_
    refine z_lcmp0 hx hb (by rw [if_pos hcd, sam_eq hI hcd]) dL_law_1000 ?_
    refine z_if_eq (tgt := 1006) hx hb dL_law_1001 (by decide) (by omega) (fun _ => ?_) (fun h => absurd rfl h)
    refine z_goto (tgt := 1231) hx hb dL_law_1006 (by decide) ?_
    refine W.widen (k := cells + 8) (n := slots + 1000) (by dsimp only; omega) (by dsimp only; omega) ?_
    exact hn ((zI ((nmV (cAt cs (scF xs (i + 1))).2.2.2.1 (cAt cs (scF xs (i + 1))).2.2.2.2.1 (cAt cs (scF xs (i + 1))).2.2.2.2.2.1 (scF xs (i + 2)) (scF xs (i + 3))))).toInt) (cSam (scF xs (i + 1)) (scF xs (i + 2)) (scF xs (i + 3)) ((cs.length : Nat) : Int)) cnt most rch cc tl M C L V Y T CA CB CN CG CS Z K cs H locs ls (hI) (lv_sub hl [2, 3, 4, 5, 6] rfl) hP hD hS
  · skip
    rw [if_neg hcd] at hP9 hD9
    obtain ⟨hP, hD⟩ := va_joinP (X := (ol G oa ov :: xL G xx pg ik mx co pa cv ca cb ar ((cs).length : Int) w h (w * h) cnt most rch M C (PPf Y w (w * h)) cc L V (Fof cs)) ++ mdL G md ma mb mc mt m1 m2 m3 m4 m5 m6 m7 th w h cnt most rch tl (cs.length : Int) M Y C T CA CB CN CG CS Z K) (cx := ol G oa ov :: xL G xx pg ik mx co pa cv ca cb ar ((cs).length : Int) w h (w * h) cnt most rch M C (PPf Y w (w * h)) cc L V (Fof cs)) (pl := clAll G cs) (wr := mdL G md ma mb mc mt m1 m2 m3 m4 m5 m6 m7 th w h cnt most rch tl (cs.length : Int) M Y C T CA CB CN CG CS Z K) (rx := ol G oa (ov) :: xL G xx pg ik mx co pa cv ca cb ar ((cs).length : Int) w h (w * h) cnt most rch M C (PPf Y w (w * h)) cc L V (Fof cs)) (pl1 := clAll G (cs)) hP hD [0, 1, 2, 3, 4, 5, 6, 7, 8, 9, 10] [11, 12, 13, 14, 15, 16, 17, 18, 19, 20, 21, 22] rfl rfl rfl (by decide) hk9 hsub9 hP9 hD9
    refine lv_istore (lv' := [(5, .int (zI ((cSam (scF xs (i + 1)) (scF xs (i + 2)) (scF xs (i + 3)) ((cs.length : Nat) : Int))))), (0, .ref b), (1, .ref xx), (2, .ref md), (3, .ref oa), (4, .int (zI (i)))]) hx hb dL_law_952 hl (by decide) rfl (fun ls hl => ?_)
    refine lv_aload_n hx hb dL_law_954 rfl (lv_at hl 3 rfl) ?_
    refine lv_aload_n hx hb dL_law_955 rfl (lv_at hl 1 rfl) ?_
    refine lv_iload hx hb dL_law_956 (lv_at hl 5 rfl) ?_
    refine z_iconst hx hb dL_law_958 ?_
    refine z_iadd hx hb dL_law_959 ?_
    refine z_sld hx hb hX hbl hbA hS ⟨by omega, by omega, by omega⟩ dL_law_960 ?_
    refine lv_aload_n hx hb dL_law_961 rfl (lv_at hl 1 rfl) ?_
    refine lv_iload hx hb dL_law_962 (lv_at hl 5 rfl) ?_
    refine z_iconst hx hb dL_law_964 ?_
    refine z_iadd hx hb dL_law_965 ?_
    refine z_sld hx hb hX hbl hbA hS ⟨by omega, by omega, by omega⟩ dL_law_966 ?_
    refine lv_aload_n hx hb dL_law_967 rfl (lv_at hl 1 rfl) ?_
    refine lv_iload hx hb dL_law_968 (lv_at hl 5 rfl) ?_
    refine z_iconst hx hb dL_law_970 ?_
    refine z_iadd hx hb dL_law_971 ?_
    refine z_sld hx hb hX hbl hbA hS ⟨by omega, by omega, by omega⟩ dL_law_972 ?_
    refine z_wVi (G := G) (X := mdL G md ma mb mc mt m1 m2 m3 m4 m5 m6 m7 th w h cnt most rch tl (cs.length : Int) M Y C T CA CB CN CG CS Z K ++ (ol G oa (ov) :: xL G xx pg ik mx co pa cv ca cb ar ((cs).length : Int) w h (w * h) cnt most rch M C (PPf Y w (w * h)) cc L V (Fof cs))) (wc := mdL G md ma mb mc mt m1 m2 m3 m4 m5 m6 m7 th w h cnt most rch tl (cs.length : Int) M Y C T CA CB CN CG CS Z K) (wr := ol G oa (ov) :: xL G xx pg ik mx co pa cv ca cb ar ((cs).length : Int) w h (w * h) cnt most rch M C (PPf Y w (w * h)) cc L V (Fof cs)) (pl := clAll G (cs)) (q0 := 0) (As := [.int (zI ((scF xs (i + 1)))), .int (zI ((scF xs (i + 2)))), .int (zI ((scF xs (i + 3))))]) (rest := []) hx hb hml hown hT hK (c_X5_same l G md ma mb mc mt m1 m2 m3 m4 m5 m6 m7 th w h cnt most rch tl ((cs.length : Nat) : Int) M Y C T CA CB CN CG CS Z K (scF xs (i + 1)) (scF xs (i + 2)) (scF xs (i + 3)) hI.1 r1 r2 r3) kc_L_124 (by dsimp only; omega) (by dsimp only; omega) hP hD hS hA [0, 1, 2, 3, 4, 5, 6, 7, 8, 9, 10, 11] [12, 13, 14, 15, 16, 17, 18, 19, 20, 21, 22] rfl rfl rfl rfl (by decide) rfl rfl rfl rfl hl.1 rfl (Nat.le_of_ble_eq_true rfl) dL_law_973 (fun u8 H locs hok8 hP hD hS => ?_)
    try dsimp only at hP hD hok8
    try simp only [if_neg hcd] at hP hD
    have hP : zP G (((ol G oa (ov) :: xL G xx pg ik mx co pa cv ca cb ar ((cs).length : Int) w h (w * h) cnt most rch M C (PPf Y w (w * h)) cc L V (Fof cs)) ++ mdL G md ma mb mc mt m1 m2 m3 m4 m5 m6 m7 (cSam (scF xs (i + 1)) (scF xs (i + 2)) (scF xs (i + 3)) ((cs.length : Nat) : Int)) w h cnt most rch tl (cs.length : Int) M Y C T CA CB CN CG CS Z K) ++ clAll G (cs)) H := hP
    have hD : va_D A (((ol G oa (ov) :: xL G xx pg ik mx co pa cv ca cb ar ((cs).length : Int) w h (w * h) cnt most rch M C (PPf Y w (w * h)) cc L V (Fof cs)) ++ mdL G md ma mb mc mt m1 m2 m3 m4 m5 m6 m7 (cSam (scF xs (i + 1)) (scF xs (i + 2)) (scF xs (i + 3)) ((cs.length : Nat) : Int)) w h cnt most rch tl (cs.length : Int) M Y C T CA CB CN CG CS Z K) ++ clAll G (cs)) := hD
    refine lv_istore (lv' := [(6, .int (zI ((if (cSam (scF xs (i + 1)) (scF xs (i + 2)) (scF xs (i + 3)) ((cs.length : Nat) : Int)) = 0 then (nmV (CG (scF xs (i + 1))) (CN (scF xs (i + 1)) / CG (scF xs (i + 1))) (CS (scF xs (i + 1))) (scF xs (i + 2)) (scF xs (i + 3))) else 0)))), (5, .int (zI ((cSam (scF xs (i + 1)) (scF xs (i + 2)) (scF xs (i + 3)) ((cs.length : Nat) : Int))))), (0, .ref b), (1, .ref xx), (2, .ref md), (3, .ref oa), (4, .int (zI (i)))]) hx hb dL_law_976 hl (by decide) rfl (fun ls hl => ?_)
    refine lv_aload_n hx hb dL_law_978 rfl (lv_at hl 4 rfl) ?_
    refine z_callV (q0 := 0) (G := G) (As := []) (rest := []) hx hb hml hown hT hK (c_X5_thrown l G md ma mb mc mt m1 m2 m3 m4 m5 m6 m7 (cSam (scF xs (i + 1)) (scF xs (i + 2)) (scF xs (i + 3)) ((cs.length : Nat) : Int)) w h cnt most rch tl (cs.length : Int) M Y C T CA CB CN CG CS Z K) kc_L_81 (by dsimp only; omega) ⟨rfl, rfl⟩ (by dsimp only; omega) ((zP_left hP).sub [11, 12, 13, 14, 15, 16, 17, 18, 19, 20, 21, 22] rfl) rfl rfl rfl rfl hl.1 rfl (Nat.le_of_ble_eq_true rfl) dL_law_979 ?_
    refine lv_iload hx hb dL_law_982 (lv_at hl 1 rfl) ?_
    refine z_icmp_eq (tgt := 989) hx hb dL_law_984 (by decide) (by omega) (by omega) (fun _ => ?_) (fun h => absurd rfl h)
    refine lv_iload hx hb dL_law_989 (lv_at hl 1 rfl) ?_
    refine z_if_ne (tgt := 1006) hx hb dL_law_991 (by decide) (by omega) (fun _ => ?_) (fun h => absurd h hcd)
    refine z_goto (tgt := 1231) hx hb dL_law_1006 (by decide) ?_
    refine W.widen (k := cells + 8) (n := slots + 1000) (by dsimp only; omega) (by dsimp only; omega) ?_
    exact hn ov (cSam (scF xs (i + 1)) (scF xs (i + 2)) (scF xs (i + 3)) ((cs.length : Nat) : Int)) cnt most rch cc tl M C L V Y T CA CB CN CG CS Z K cs H locs ls (hI) (lv_sub hl [2, 3, 4, 5, 6] rfl) hP hD hS
set_option maxHeartbeats 4000000 in
set_option maxRecDepth 100000 in
theorem law_prints (hc : lawC p l R s m args c G A b Ls xs) (hi : 2 ≤ i ∧ i + 6 ≤ (Ls : Int)) (hI : lInv w h cnt most rch M C cc L V cs tl Y T CN CG CS K) (hl : lv_has ls 8 [(0, .ref b), (1, .ref xx), (2, .ref md), (3, .ref oa), (4, .int (zI i))]) (hP : zP G (lawW G oa xx pg ik mx co pa cv ca cb ar md ma mb mc mt m1 m2 m3 m4 m5 m6 m7 w h ov th cnt most rch cc tl M C L V Y T CA CB CN CG CS Z K cs) H) (hD : va_D A (lawW G oa xx pg ik mx co pa cv ca cb ar md ma mb mc mt m1 m2 m3 m4 m5 m6 m7 w h ov th cnt most rch cc tl M C L V Y T CA CB CN CG CS Z K cs)) (hS : va_S A s.heap H locs) (hcl : cells + 8 ≤ R.cells ∧ slots + 1000 ≤ R.slots) (hn : lawN p l e R s m args below meth c (cells + 8) (slots + 1000) Q G A b oa xx pg ik mx co pa cv ca cb ar md ma mb mc mt m1 m2 m3 m4 m5 m6 m7 i w h) : W p l e R s m args below meth c H locs cells slots Q (F0 m 1009 ls []) := by
  obtain ⟨hx, hb, hml, hown, hT, hK, hXz, hN, hX, hbl, hst, hRf, hRl, hA, hbA, hLs⟩ := hc
  have hP : zP G (((ol G oa ov :: xL G xx pg ik mx co pa cv ca cb ar ((cs).length : Int) w h (w * h) cnt most rch M C (PPf Y w (w * h)) cc L V (Fof cs)) ++ mdL G md ma mb mc mt m1 m2 m3 m4 m5 m6 m7 th w h cnt most rch tl (cs.length : Int) M Y C T CA CB CN CG CS Z K) ++ clAll G cs) H := hP
  have hD : va_D A (((ol G oa ov :: xL G xx pg ik mx co pa cv ca cb ar ((cs).length : Int) w h (w * h) cnt most rch M C (PPf Y w (w * h)) cc L V (Fof cs)) ++ mdL G md ma mb mc mt m1 m2 m3 m4 m5 m6 m7 th w h cnt most rch tl (cs.length : Int) M Y C T CA CB CN CG CS Z K) ++ clAll G cs) := hD
  have r1 := scF_r xs (i + 1)
  have r2 := scF_r xs (i + 2)
  have r3 := scF_r xs (i + 3)
  have r4 := scF_r xs (i + 4)
  refine lv_aload_n hx hb dL_law_1009 rfl (lv_at hl 1 rfl) ?_
  refine lv_aload_n hx hb dL_law_1010 rfl (lv_at hl 0 rfl) ?_
  refine lv_iload hx hb dL_law_1011 (lv_at hl 4 rfl) ?_
  refine z_iconst hx hb dL_law_1013 ?_
  refine z_iadd hx hb dL_law_1014 ?_
  refine z_sld hx hb hX hbl hbA hS ⟨by omega, by omega, by omega⟩ dL_law_1015 ?_
  refine lv_aload_n hx hb dL_law_1016 rfl (lv_at hl 0 rfl) ?_
  refine lv_iload hx hb dL_law_1017 (lv_at hl 4 rfl) ?_
  refine z_iconst hx hb dL_law_1019 ?_
  refine z_iadd hx hb dL_law_1020 ?_
  refine z_sld hx hb hX hbl hbA hS ⟨by omega, by omega, by omega⟩ dL_law_1021 ?_
  refine lv_aload_n hx hb dL_law_1022 rfl (lv_at hl 0 rfl) ?_
  refine lv_iload hx hb dL_law_1023 (lv_at hl 4 rfl) ?_
  refine z_iconst hx hb dL_law_1025 ?_
  refine z_iadd hx hb dL_law_1026 ?_
  refine z_sld hx hb hX hbl hbA hS ⟨by omega, by omega, by omega⟩ dL_law_1027 ?_
  refine lv_aload_n hx hb dL_law_1028 rfl (lv_at hl 0 rfl) ?_
  refine lv_iload hx hb dL_law_1029 (lv_at hl 4 rfl) ?_
  refine z_iconst hx hb dL_law_1031 ?_
  refine z_iadd hx hb dL_law_1032 ?_
  refine z_sld hx hb hX hbl hbA hS ⟨by omega, by omega, by omega⟩ dL_law_1033 ?_
  refine lv_aload_n hx hb dL_law_1034 rfl (lv_at hl 3 rfl) ?_
  refine z_sH (G := G) (X := (ol G oa ov :: xL G xx pg ik mx co pa cv ca cb ar ((cs).length : Int) w h (w * h) cnt most rch M C (PPf Y w (w * h)) cc L V (Fof cs)) ++ mdL G md ma mb mc mt m1 m2 m3 m4 m5 m6 m7 th w h cnt most rch tl (cs.length : Int) M Y C T CA CB CN CG CS Z K) (cx := ol G oa ov :: xL G xx pg ik mx co pa cv ca cb ar ((cs).length : Int) w h (w * h) cnt most rch M C (PPf Y w (w * h)) cc L V (Fof cs)) (pl := clAll G cs) (As := [.ref xx, .int (zI ((scF xs (i + 1)))), .int (zI ((scF xs (i + 2)))), .int (zI ((scF xs (i + 3)))), .int (zI ((scF xs (i + 4)))), .ref oa]) (rest := []) hx hb hml hown hT hK (c_L_prints l hst G xx pg ik mx co pa cv ca cb ar ((cs.length : Nat) : Int) w h (w * h) cnt most rch M C (PPf Y w (w * h)) cc L V cs (scF xs (i + 1)) (scF xs (i + 2)) (scF xs (i + 3)) (scF xs (i + 4)) oa ov (lInv_pg hI) hI.2.2.1 (lInv_nx hI) hI.2.2.2.2.1 rfl r1 r2 r3 r4) kh_L_125 (by dsimp only; omega) (by dsimp only; omega) hP hD hS hA hXz hN [0, 1, 2, 3, 4, 5, 6, 7, 8, 9, 10] rfl rfl rfl hl.1 rfl (Nat.le_of_ble_eq_true rfl) dL_law_1035 (fun u9 H1 locs1 hok9 hk9 hsub9 hP9 hD9 hS => ?_)
  have hcr : 0 ≤ (cPri (scF xs (i + 1)) (scF xs (i + 2)) (scF xs (i + 3)) (scF xs (i + 4)) ((cs.length : Nat) : Int) cnt w h) ∧ (cPri (scF xs (i + 1)) (scF xs (i + 2)) (scF xs (i + 3)) (scF xs (i + 4)) ((cs.length : Nat) : Int) cnt w h) ≤ 3 := by
    unfold cPri; (repeat' split) <;> omega
  try dsimp only at hP9 hD9 hok9
  by_cases hcd : (cPri (scF xs (i + 1)) (scF xs (i + 2)) (scF xs (i + 3)) (scF xs (i + 4)) ((cs.length : Nat) : Int) cnt w h) = 0
  · skip
    rw [if_pos hcd] at hP9 hD9
    obtain ⟨hP, hD⟩ := va_joinP (X := (ol G oa ov :: xL G xx pg ik mx co pa cv ca cb ar ((cs).length : Int) w h (w * h) cnt most rch M C (PPf Y w (w * h)) cc L V (Fof cs)) ++ mdL G md ma mb mc mt m1 m2 m3 m4 m5 m6 m7 th w h cnt most rch tl (cs.length : Int) M Y C T CA CB CN CG CS Z K) (cx := ol G oa ov :: xL G xx pg ik mx co pa cv ca cb ar ((cs).length : Int) w h (w * h) cnt most rch M C (PPf Y w (w * h)) cc L V (Fof cs)) (pl := clAll G cs) (wr := mdL G md ma mb mc mt m1 m2 m3 m4 m5 m6 m7 th w h cnt most rch tl (cs.length : Int) M Y C T CA CB CN CG CS Z K) (rx := ol G oa (bI (decide ((cAt cs (scF xs (i + 1))).2.2.2.2.2.2 (nmV (cAt cs (scF xs (i + 1))).2.2.2.1 (cAt cs (scF xs (i + 1))).2.2.2.2.1 (cAt cs (scF xs (i + 1))).2.2.2.2.2.1 (scF xs (i + 3)) (scF xs (i + 4))) < ((bentV cc L V ((PPf Y w (w * h)) ((scF xs (i + 2)) * (w * h) + ((scF xs (i + 3)) + w * (scF xs (i + 4)))))) * ((cAt cs (scF xs (i + 1))).2.2.1 : Int) + 127) / 255))) :: xL G xx pg ik mx co pa cv ca cb ar ((cs).length : Int) w h (w * h) cnt most rch M C (PPf Y w (w * h)) cc L V (Fof cs)) (pl1 := clAll G (cs)) hP hD [0, 1, 2, 3, 4, 5, 6, 7, 8, 9, 10] [11, 12, 13, 14, 15, 16, 17, 18, 19, 20, 21, 22] rfl rfl rfl (by decide) hk9 hsub9 hP9 hD9
    refine lv_istore (lv' := [(5, .int (zI ((cPri (scF xs (i + 1)) (scF xs (i + 2)) (scF xs (i + 3)) (scF xs (i + 4)) ((cs.length : Nat) : Int) cnt w h)))), (0, .ref b), (1, .ref xx), (2, .ref md), (3, .ref oa), (4, .int (zI (i)))]) hx hb dL_law_1038 hl (by decide) rfl (fun ls hl => ?_)
    refine lv_aload_n hx hb dL_law_1040 rfl (lv_at hl 3 rfl) ?_
    refine lv_aload_n hx hb dL_law_1041 rfl (lv_at hl 1 rfl) ?_
    refine lv_iload hx hb dL_law_1042 (lv_at hl 5 rfl) ?_
    refine z_iconst hx hb dL_law_1044 ?_
    refine z_iadd hx hb dL_law_1045 ?_
    refine z_sld hx hb hX hbl hbA hS ⟨by omega, by omega, by omega⟩ dL_law_1046 ?_
    refine lv_aload_n hx hb dL_law_1047 rfl (lv_at hl 1 rfl) ?_
    refine lv_iload hx hb dL_law_1048 (lv_at hl 5 rfl) ?_
    refine z_iconst hx hb dL_law_1050 ?_
    refine z_iadd hx hb dL_law_1051 ?_
    refine z_sld hx hb hX hbl hbA hS ⟨by omega, by omega, by omega⟩ dL_law_1052 ?_
    refine lv_aload_n hx hb dL_law_1053 rfl (lv_at hl 1 rfl) ?_
    refine lv_iload hx hb dL_law_1054 (lv_at hl 5 rfl) ?_
    refine z_iconst hx hb dL_law_1056 ?_
    refine z_iadd hx hb dL_law_1057 ?_
    refine z_sld hx hb hX hbl hbA hS ⟨by omega, by omega, by omega⟩ dL_law_1058 ?_
    refine lv_aload_n hx hb dL_law_1059 rfl (lv_at hl 1 rfl) ?_
    refine lv_iload hx hb dL_law_1060 (lv_at hl 5 rfl) ?_
    refine z_iconst hx hb dL_law_1062 ?_
    refine z_iadd hx hb dL_law_1063 ?_
    refine z_sld hx hb hX hbl hbA hS ⟨by omega, by omega, by omega⟩ dL_law_1064 ?_
    refine z_wVi (G := G) (X := mdL G md ma mb mc mt m1 m2 m3 m4 m5 m6 m7 th w h cnt most rch tl (cs.length : Int) M Y C T CA CB CN CG CS Z K ++ (ol G oa (bI (decide ((cAt cs (scF xs (i + 1))).2.2.2.2.2.2 (nmV (cAt cs (scF xs (i + 1))).2.2.2.1 (cAt cs (scF xs (i + 1))).2.2.2.2.1 (cAt cs (scF xs (i + 1))).2.2.2.2.2.1 (scF xs (i + 3)) (scF xs (i + 4))) < ((bentV cc L V ((PPf Y w (w * h)) ((scF xs (i + 2)) * (w * h) + ((scF xs (i + 3)) + w * (scF xs (i + 4)))))) * ((cAt cs (scF xs (i + 1))).2.2.1 : Int) + 127) / 255))) :: xL G xx pg ik mx co pa cv ca cb ar ((cs).length : Int) w h (w * h) cnt most rch M C (PPf Y w (w * h)) cc L V (Fof cs))) (wc := mdL G md ma mb mc mt m1 m2 m3 m4 m5 m6 m7 th w h cnt most rch tl (cs.length : Int) M Y C T CA CB CN CG CS Z K) (wr := ol G oa (bI (decide ((cAt cs (scF xs (i + 1))).2.2.2.2.2.2 (nmV (cAt cs (scF xs (i + 1))).2.2.2.1 (cAt cs (scF xs (i + 1))).2.2.2.2.1 (cAt cs (scF xs (i + 1))).2.2.2.2.2.1 (scF xs (i + 3)) (scF xs (i + 4))) < ((bentV cc L V ((PPf Y w (w * h)) ((scF xs (i + 2)) * (w * h) + ((scF xs (i + 3)) + w * (scF xs (i + 4)))))) * ((cAt cs (scF xs (i + 1))).2.2.1 : Int) + 127) / 255))) :: xL G xx pg ik mx co pa cv ca cb ar ((cs).length : Int) w h (w * h) cnt most rch M C (PPf Y w (w * h)) cc L V (Fof cs)) (pl := clAll G (cs)) (q0 := 0) (As := [.int (zI ((scF xs (i + 1)))), .int (zI ((scF xs (i + 2)))), .int (zI ((scF xs (i + 3)))), .int (zI ((scF xs (i + 4))))]) (rest := []) hx hb hml hown hT hK (c_X5_prints l G md ma mb mc mt m1 m2 m3 m4 m5 m6 m7 th w h cnt most rch tl ((cs.length : Nat) : Int) M Y C T CA CB CN CG CS Z K (scF xs (i + 1)) (scF xs (i + 2)) (scF xs (i + 3)) (scF xs (i + 4)) hI.1 r1 r2 r3 r4) kc_L_127 (by dsimp only; omega) (by dsimp only; omega) hP hD hS hA [0, 1, 2, 3, 4, 5, 6, 7, 8, 9, 10, 11] [12, 13, 14, 15, 16, 17, 18, 19, 20, 21, 22] rfl rfl rfl rfl (by decide) rfl rfl rfl rfl hl.1 rfl (Nat.le_of_ble_eq_true rfl) dL_law_1065 (fun u8 H locs hok8 hP hD hS => ?_)
    try dsimp only at hP hD hok8
    try simp only [if_pos hcd] at hP hD
    have hP : zP G (((ol G oa (bI (decide ((cAt cs (scF xs (i + 1))).2.2.2.2.2.2 (nmV (cAt cs (scF xs (i + 1))).2.2.2.1 (cAt cs (scF xs (i + 1))).2.2.2.2.1 (cAt cs (scF xs (i + 1))).2.2.2.2.2.1 (scF xs (i + 3)) (scF xs (i + 4))) < ((bentV cc L V ((PPf Y w (w * h)) ((scF xs (i + 2)) * (w * h) + ((scF xs (i + 3)) + w * (scF xs (i + 4)))))) * ((cAt cs (scF xs (i + 1))).2.2.1 : Int) + 127) / 255))) :: xL G xx pg ik mx co pa cv ca cb ar ((cs).length : Int) w h (w * h) cnt most rch M C (PPf Y w (w * h)) cc L V (Fof cs)) ++ mdL G md ma mb mc mt m1 m2 m3 m4 m5 m6 m7 (cPri (scF xs (i + 1)) (scF xs (i + 2)) (scF xs (i + 3)) (scF xs (i + 4)) ((cs.length : Nat) : Int) cnt w h) w h cnt most rch tl (cs.length : Int) M Y C T CA CB CN CG CS Z K) ++ clAll G (cs)) H := hP
    have hD : va_D A (((ol G oa (bI (decide ((cAt cs (scF xs (i + 1))).2.2.2.2.2.2 (nmV (cAt cs (scF xs (i + 1))).2.2.2.1 (cAt cs (scF xs (i + 1))).2.2.2.2.1 (cAt cs (scF xs (i + 1))).2.2.2.2.2.1 (scF xs (i + 3)) (scF xs (i + 4))) < ((bentV cc L V ((PPf Y w (w * h)) ((scF xs (i + 2)) * (w * h) + ((scF xs (i + 3)) + w * (scF xs (i + 4)))))) * ((cAt cs (scF xs (i + 1))).2.2.1 : Int) + 127) / 255))) :: xL G xx pg ik mx co pa cv ca cb ar ((cs).length : Int) w h (w * h) cnt most rch M C (PPf Y w (w * h)) cc L V (Fof cs)) ++ mdL G md ma mb mc mt m1 m2 m3 m4 m5 m6 m7 (cPri (scF xs (i + 1)) (scF xs (i + 2)) (scF xs (i + 3)) (scF xs (i + 4)) ((cs.length : Nat) : Int) cnt w h) w h cnt most rch tl (cs.length : Int) M Y C T CA CB CN CG CS Z K) ++ clAll G (cs)) := hD
    refine lv_istore (lv' := [(6, .int (zI ((if (cPri (scF xs (i + 1)) (scF xs (i + 2)) (scF xs (i + 3)) (scF xs (i + 4)) ((cs.length : Nat) : Int) cnt w h) = 0 then (bI (decide (K (300 * (scF xs (i + 1)) + (nmV (CG (scF xs (i + 1))) (CN (scF xs (i + 1)) / CG (scF xs (i + 1))) (CS (scF xs (i + 1))) (scF xs (i + 3)) (scF xs (i + 4)))) < (tcV T ((PPf Y w (w * h)) ((scF xs (i + 2)) * (w * h) + ((scF xs (i + 3)) + w * (scF xs (i + 4))))) * CN (scF xs (i + 1)) + 127) / 255))) else 0)))), (5, .int (zI ((cPri (scF xs (i + 1)) (scF xs (i + 2)) (scF xs (i + 3)) (scF xs (i + 4)) ((cs.length : Nat) : Int) cnt w h)))), (0, .ref b), (1, .ref xx), (2, .ref md), (3, .ref oa), (4, .int (zI (i)))]) hx hb dL_law_1068 hl (by decide) rfl (fun ls hl => ?_)
    refine lv_aload_n hx hb dL_law_1070 rfl (lv_at hl 4 rfl) ?_
    refine z_callV (q0 := 0) (G := G) (As := []) (rest := []) hx hb hml hown hT hK (c_X5_thrown l G md ma mb mc mt m1 m2 m3 m4 m5 m6 m7 (cPri (scF xs (i + 1)) (scF xs (i + 2)) (scF xs (i + 3)) (scF xs (i + 4)) ((cs.length : Nat) : Int) cnt w h) w h cnt most rch tl (cs.length : Int) M Y C T CA CB CN CG CS Z K) kc_L_81 (by dsimp only; omega) ⟨rfl, rfl⟩ (by dsimp only; omega) ((zP_left hP).sub [11, 12, 13, 14, 15, 16, 17, 18, 19, 20, 21, 22] rfl) rfl rfl rfl rfl hl.1 rfl (Nat.le_of_ble_eq_true rfl) dL_law_1071 ?_
    refine lv_iload hx hb dL_law_1074 (lv_at hl 1 rfl) ?_
    refine z_icmp_eq (tgt := 1081) hx hb dL_law_1076 (by decide) (by omega) (by omega) (fun _ => ?_) (fun h => absurd rfl h)
    refine lv_iload hx hb dL_law_1081 (lv_at hl 1 rfl) ?_
    refine z_if_ne (tgt := 1105) hx hb dL_law_1083 (by decide) (by omega) (fun h => absurd hcd h) (fun _ => ?_)
    refine lv_aload_n hx hb dL_law_1086 rfl (lv_at hl 5 rfl) ?_
    refine z_iconst hx hb dL_law_1087 ?_
    refine z_lald hx hb hK hP 0 rfl dL_law_1088 ?_
    refine lv_iload hx hb dL_law_1089 (lv_at hl 0 rfl) ?_
    refine z_ne0l hx hb (by rw [if_pos hcd]; exact bI_rng _) dL_law_1091 dL_law_1094 dL_law_1095 dL_law_1098 ?_
    refine z_lcmp0 hx hb (by rw [if_pos hcd, ← pri_eq hI hcd]; exact bI_ne0 _) dL_law_1099 ?_
    refine z_if_eq (tgt := 1105) hx hb dL_law_1100 (by decide) (by omega) (fun _ => ?_) (fun h => absurd rfl h)
    refine z_goto (tgt := 1231) hx hb dL_law_1105 (by decide) ?_
    refine W.widen (k := cells + 8) (n := slots + 1000) (by dsimp only; omega) (by dsimp only; omega) ?_
    exact hn (bI (decide ((cAt cs (scF xs (i + 1))).2.2.2.2.2.2 (nmV (cAt cs (scF xs (i + 1))).2.2.2.1 (cAt cs (scF xs (i + 1))).2.2.2.2.1 (cAt cs (scF xs (i + 1))).2.2.2.2.2.1 (scF xs (i + 3)) (scF xs (i + 4))) < ((bentV cc L V ((PPf Y w (w * h)) ((scF xs (i + 2)) * (w * h) + ((scF xs (i + 3)) + w * (scF xs (i + 4)))))) * ((cAt cs (scF xs (i + 1))).2.2.1 : Int) + 127) / 255))) (cPri (scF xs (i + 1)) (scF xs (i + 2)) (scF xs (i + 3)) (scF xs (i + 4)) ((cs.length : Nat) : Int) cnt w h) cnt most rch cc tl M C L V Y T CA CB CN CG CS Z K cs H locs ls (hI) (lv_sub hl [2, 3, 4, 5, 6] rfl) hP hD hS
  · skip
    rw [if_neg hcd] at hP9 hD9
    obtain ⟨hP, hD⟩ := va_joinP (X := (ol G oa ov :: xL G xx pg ik mx co pa cv ca cb ar ((cs).length : Int) w h (w * h) cnt most rch M C (PPf Y w (w * h)) cc L V (Fof cs)) ++ mdL G md ma mb mc mt m1 m2 m3 m4 m5 m6 m7 th w h cnt most rch tl (cs.length : Int) M Y C T CA CB CN CG CS Z K) (cx := ol G oa ov :: xL G xx pg ik mx co pa cv ca cb ar ((cs).length : Int) w h (w * h) cnt most rch M C (PPf Y w (w * h)) cc L V (Fof cs)) (pl := clAll G cs) (wr := mdL G md ma mb mc mt m1 m2 m3 m4 m5 m6 m7 th w h cnt most rch tl (cs.length : Int) M Y C T CA CB CN CG CS Z K) (rx := ol G oa (ov) :: xL G xx pg ik mx co pa cv ca cb ar ((cs).length : Int) w h (w * h) cnt most rch M C (PPf Y w (w * h)) cc L V (Fof cs)) (pl1 := clAll G (cs)) hP hD [0, 1, 2, 3, 4, 5, 6, 7, 8, 9, 10] [11, 12, 13, 14, 15, 16, 17, 18, 19, 20, 21, 22] rfl rfl rfl (by decide) hk9 hsub9 hP9 hD9
    refine lv_istore (lv' := [(5, .int (zI ((cPri (scF xs (i + 1)) (scF xs (i + 2)) (scF xs (i + 3)) (scF xs (i + 4)) ((cs.length : Nat) : Int) cnt w h)))), (0, .ref b), (1, .ref xx), (2, .ref md), (3, .ref oa), (4, .int (zI (i)))]) hx hb dL_law_1038 hl (by decide) rfl (fun ls hl => ?_)
    refine lv_aload_n hx hb dL_law_1040 rfl (lv_at hl 3 rfl) ?_
    refine lv_aload_n hx hb dL_law_1041 rfl (lv_at hl 1 rfl) ?_
    refine lv_iload hx hb dL_law_1042 (lv_at hl 5 rfl) ?_
    refine z_iconst hx hb dL_law_1044 ?_
    refine z_iadd hx hb dL_law_1045 ?_
    refine z_sld hx hb hX hbl hbA hS ⟨by omega, by omega, by omega⟩ dL_law_1046 ?_
    refine lv_aload_n hx hb dL_law_1047 rfl (lv_at hl 1 rfl) ?_
    refine lv_iload hx hb dL_law_1048 (lv_at hl 5 rfl) ?_
    refine z_iconst hx hb dL_law_1050 ?_
    refine z_iadd hx hb dL_law_1051 ?_
    refine z_sld hx hb hX hbl hbA hS ⟨by omega, by omega, by omega⟩ dL_law_1052 ?_
    refine lv_aload_n hx hb dL_law_1053 rfl (lv_at hl 1 rfl) ?_
    refine lv_iload hx hb dL_law_1054 (lv_at hl 5 rfl) ?_
    refine z_iconst hx hb dL_law_1056 ?_
    refine z_iadd hx hb dL_law_1057 ?_
    refine z_sld hx hb hX hbl hbA hS ⟨by omega, by omega, by omega⟩ dL_law_1058 ?_
    refine lv_aload_n hx hb dL_law_1059 rfl (lv_at hl 1 rfl) ?_
    refine lv_iload hx hb dL_law_1060 (lv_at hl 5 rfl) ?_
    refine z_iconst hx hb dL_law_1062 ?_
    refine z_iadd hx hb dL_law_1063 ?_
    refine z_sld hx hb hX hbl hbA hS ⟨by omega, by omega, by omega⟩ dL_law_1064 ?_
    refine z_wVi (G := G) (X := mdL G md ma mb mc mt m1 m2 m3 m4 m5 m6 m7 th w h cnt most rch tl (cs.length : Int) M Y C T CA CB CN CG CS Z K ++ (ol G oa (ov) :: xL G xx pg ik mx co pa cv ca cb ar ((cs).length : Int) w h (w * h) cnt most rch M C (PPf Y w (w * h)) cc L V (Fof cs))) (wc := mdL G md ma mb mc mt m1 m2 m3 m4 m5 m6 m7 th w h cnt most rch tl (cs.length : Int) M Y C T CA CB CN CG CS Z K) (wr := ol G oa (ov) :: xL G xx pg ik mx co pa cv ca cb ar ((cs).length : Int) w h (w * h) cnt most rch M C (PPf Y w (w * h)) cc L V (Fof cs)) (pl := clAll G (cs)) (q0 := 0) (As := [.int (zI ((scF xs (i + 1)))), .int (zI ((scF xs (i + 2)))), .int (zI ((scF xs (i + 3)))), .int (zI ((scF xs (i + 4))))]) (rest := []) hx hb hml hown hT hK (c_X5_prints l G md ma mb mc mt m1 m2 m3 m4 m5 m6 m7 th w h cnt most rch tl ((cs.length : Nat) : Int) M Y C T CA CB CN CG CS Z K (scF xs (i + 1)) (scF xs (i + 2)) (scF xs (i + 3)) (scF xs (i + 4)) hI.1 r1 r2 r3 r4) kc_L_127 (by dsimp only; omega) (by dsimp only; omega) hP hD hS hA [0, 1, 2, 3, 4, 5, 6, 7, 8, 9, 10, 11] [12, 13, 14, 15, 16, 17, 18, 19, 20, 21, 22] rfl rfl rfl rfl (by decide) rfl rfl rfl rfl hl.1 rfl (Nat.le_of_ble_eq_true rfl) dL_law_1065 (fun u8 H locs hok8 hP hD hS => ?_)
    try dsimp only at hP hD hok8
    try simp only [if_neg hcd] at hP hD
    have hP : zP G (((ol G oa (ov) :: xL G xx pg ik mx co pa cv ca cb ar ((cs).length : Int) w h (w * h) cnt most rch M C (PPf Y w (w * h)) cc L V (Fof cs)) ++ mdL G md ma mb mc mt m1 m2 m3 m4 m5 m6 m7 (cPri (scF xs (i + 1)) (scF xs (i + 2)) (scF xs (i + 3)) (scF xs (i + 4)) ((cs.length : Nat) : Int) cnt w h) w h cnt most rch tl (cs.length : Int) M Y C T CA CB CN CG CS Z K) ++ clAll G (cs)) H := hP
    have hD : va_D A (((ol G oa (ov) :: xL G xx pg ik mx co pa cv ca cb ar ((cs).length : Int) w h (w * h) cnt most rch M C (PPf Y w (w * h)) cc L V (Fof cs)) ++ mdL G md ma mb mc mt m1 m2 m3 m4 m5 m6 m7 (cPri (scF xs (i + 1)) (scF xs (i + 2)) (scF xs (i + 3)) (scF xs (i + 4)) ((cs.length : Nat) : Int) cnt w h) w h cnt most rch tl (cs.length : Int) M Y C T CA CB CN CG CS Z K) ++ clAll G (cs)) := hD
    refine lv_istore (lv' := [(6, .int (zI ((if (cPri (scF xs (i + 1)) (scF xs (i + 2)) (scF xs (i + 3)) (scF xs (i + 4)) ((cs.length : Nat) : Int) cnt w h) = 0 then (bI (decide (K (300 * (scF xs (i + 1)) + (nmV (CG (scF xs (i + 1))) (CN (scF xs (i + 1)) / CG (scF xs (i + 1))) (CS (scF xs (i + 1))) (scF xs (i + 3)) (scF xs (i + 4)))) < (tcV T ((PPf Y w (w * h)) ((scF xs (i + 2)) * (w * h) + ((scF xs (i + 3)) + w * (scF xs (i + 4))))) * CN (scF xs (i + 1)) + 127) / 255))) else 0)))), (5, .int (zI ((cPri (scF xs (i + 1)) (scF xs (i + 2)) (scF xs (i + 3)) (scF xs (i + 4)) ((cs.length : Nat) : Int) cnt w h)))), (0, .ref b), (1, .ref xx), (2, .ref md), (3, .ref oa), (4, .int (zI (i)))]) hx hb dL_law_1068 hl (by decide) rfl (fun ls hl => ?_)
    refine lv_aload_n hx hb dL_law_1070 rfl (lv_at hl 4 rfl) ?_
    refine z_callV (q0 := 0) (G := G) (As := []) (rest := []) hx hb hml hown hT hK (c_X5_thrown l G md ma mb mc mt m1 m2 m3 m4 m5 m6 m7 (cPri (scF xs (i + 1)) (scF xs (i + 2)) (scF xs (i + 3)) (scF xs (i + 4)) ((cs.length : Nat) : Int) cnt w h) w h cnt most rch tl (cs.length : Int) M Y C T CA CB CN CG CS Z K) kc_L_81 (by dsimp only; omega) ⟨rfl, rfl⟩ (by dsimp only; omega) ((zP_left hP).sub [11, 12, 13, 14, 15, 16, 17, 18, 19, 20, 21, 22] rfl) rfl rfl rfl rfl hl.1 rfl (Nat.le_of_ble_eq_true rfl) dL_law_1071 ?_
    refine lv_iload hx hb dL_law_1074 (lv_at hl 1 rfl) ?_
    refine z_icmp_eq (tgt := 1081) hx hb dL_law_1076 (by decide) (by omega) (by omega) (fun _ => ?_) (fun h => absurd rfl h)
    refine lv_iload hx hb dL_law_1081 (lv_at hl 1 rfl) ?_
    refine z_if_ne (tgt := 1105) hx hb dL_law_1083 (by decide) (by omega) (fun _ => ?_) (fun h => absurd h hcd)
    refine z_goto (tgt := 1231) hx hb dL_law_1105 (by decide) ?_
    refine W.widen (k := cells + 8) (n := slots + 1000) (by dsimp only; omega) (by dsimp only; omega) ?_
    exact hn ov (cPri (scF xs (i + 1)) (scF xs (i + 2)) (scF xs (i + 3)) (scF xs (i + 4)) ((cs.length : Nat) : Int) cnt w h) cnt most rch cc tl M C L V Y T CA CB CN CG CS Z K cs H locs ls (hI) (lv_sub hl [2, 3, 4, 5, 6] rfl) hP hD hS
set_option maxHeartbeats 4000000 in
set_option maxRecDepth 100000 in
theorem law_covered (hc : lawC p l R s m args c G A b Ls xs) (hi : 2 ≤ i ∧ i + 6 ≤ (Ls : Int)) (hI : lInv w h cnt most rch M C cc L V cs tl Y T CN CG CS K) (hl : lv_has ls 8 [(0, .ref b), (1, .ref xx), (2, .ref md), (3, .ref oa), (4, .int (zI i))]) (hP : zP G (lawW G oa xx pg ik mx co pa cv ca cb ar md ma mb mc mt m1 m2 m3 m4 m5 m6 m7 w h ov th cnt most rch cc tl M C L V Y T CA CB CN CG CS Z K cs) H) (hD : va_D A (lawW G oa xx pg ik mx co pa cv ca cb ar md ma mb mc mt m1 m2 m3 m4 m5 m6 m7 w h ov th cnt most rch cc tl M C L V Y T CA CB CN CG CS Z K cs)) (hS : va_S A s.heap H locs) (hcl : cells + 8 ≤ R.cells ∧ slots + 1000 ≤ R.slots) (hn : lawN p l e R s m args below meth c (cells + 8) (slots + 1000) Q G A b oa xx pg ik mx co pa cv ca cb ar md ma mb mc mt m1 m2 m3 m4 m5 m6 m7 i w h) : W p l e R s m args below meth c H locs cells slots Q (F0 m 1108 ls []) := by
  obtain ⟨hx, hb, hml, hown, hT, hK, hXz, hN, hX, hbl, hst, hRf, hRl, hA, hbA, hLs⟩ := hc
  have hP : zP G (((ol G oa ov :: xL G xx pg ik mx co pa cv ca cb ar ((cs).length : Int) w h (w * h) cnt most rch M C (PPf Y w (w * h)) cc L V (Fof cs)) ++ mdL G md ma mb mc mt m1 m2 m3 m4 m5 m6 m7 th w h cnt most rch tl (cs.length : Int) M Y C T CA CB CN CG CS Z K) ++ clAll G cs) H := hP
  have hD : va_D A (((ol G oa ov :: xL G xx pg ik mx co pa cv ca cb ar ((cs).length : Int) w h (w * h) cnt most rch M C (PPf Y w (w * h)) cc L V (Fof cs)) ++ mdL G md ma mb mc mt m1 m2 m3 m4 m5 m6 m7 th w h cnt most rch tl (cs.length : Int) M Y C T CA CB CN CG CS Z K) ++ clAll G cs) := hD
  have r1 := scF_r xs (i + 1)
  refine lv_aload_n hx hb dL_law_1108 rfl (lv_at hl 1 rfl) ?_
  refine lv_aload_n hx hb dL_law_1109 rfl (lv_at hl 0 rfl) ?_
  refine lv_iload hx hb dL_law_1110 (lv_at hl 4 rfl) ?_
  refine z_iconst hx hb dL_law_1112 ?_
  refine z_iadd hx hb dL_law_1113 ?_
  refine z_sld hx hb hX hbl hbA hS ⟨by omega, by omega, by omega⟩ dL_law_1114 ?_
  refine lv_aload_n hx hb dL_law_1115 rfl (lv_at hl 3 rfl) ?_
  refine z_sH (G := G) (X := (ol G oa ov :: xL G xx pg ik mx co pa cv ca cb ar ((cs).length : Int) w h (w * h) cnt most rch M C (PPf Y w (w * h)) cc L V (Fof cs)) ++ mdL G md ma mb mc mt m1 m2 m3 m4 m5 m6 m7 th w h cnt most rch tl (cs.length : Int) M Y C T CA CB CN CG CS Z K) (cx := ol G oa ov :: xL G xx pg ik mx co pa cv ca cb ar ((cs).length : Int) w h (w * h) cnt most rch M C (PPf Y w (w * h)) cc L V (Fof cs)) (pl := clAll G cs) (As := [.ref xx, .int (zI ((scF xs (i + 1)))), .ref oa]) (rest := []) hx hb hml hown hT hK (c_L_covered l hst G xx pg ik mx co pa cv ca cb ar ((cs.length : Nat) : Int) w h (w * h) cnt most rch M C (PPf Y w (w * h)) cc L V cs (scF xs (i + 1)) oa ov (lInv_pg hI) hI.2.2.1 (lInv_nx hI) hI.2.2.2.2.1 rfl r1) kh_L_128 (by dsimp only; omega) (by dsimp only; omega) hP hD hS hA hXz hN [0, 1, 2, 3, 4, 5, 6, 7, 8, 9, 10] rfl rfl rfl hl.1 rfl (Nat.le_of_ble_eq_true rfl) dL_law_1116 (fun u9 H1 locs1 hok9 hk9 hsub9 hP9 hD9 hS => ?_)
  have hcr : 0 ≤ (cCov (scF xs (i + 1)) cnt) ∧ (cCov (scF xs (i + 1)) cnt) ≤ 3 := by
    unfold cCov; (repeat' split) <;> omega
  try dsimp only at hP9 hD9 hok9
  by_cases hcd : (cCov (scF xs (i + 1)) cnt) = 0
  · skip
    rw [if_pos hcd] at hP9 hD9
    obtain ⟨hP, hD⟩ := va_joinP (X := (ol G oa ov :: xL G xx pg ik mx co pa cv ca cb ar ((cs).length : Int) w h (w * h) cnt most rch M C (PPf Y w (w * h)) cc L V (Fof cs)) ++ mdL G md ma mb mc mt m1 m2 m3 m4 m5 m6 m7 th w h cnt most rch tl (cs.length : Int) M Y C T CA CB CN CG CS Z K) (cx := ol G oa ov :: xL G xx pg ik mx co pa cv ca cb ar ((cs).length : Int) w h (w * h) cnt most rch M C (PPf Y w (w * h)) cc L V (Fof cs)) (pl := clAll G cs) (wr := mdL G md ma mb mc mt m1 m2 m3 m4 m5 m6 m7 th w h cnt most rch tl (cs.length : Int) M Y C T CA CB CN CG CS Z K) (rx := ol G oa ((zsum (fun p9 => (PPf Y w (w * h)) ((scF xs (i + 1)) * (w * h) + p9)) (w * h).toNat)) :: xL G xx pg ik mx co pa cv ca cb ar ((cs).length : Int) w h (w * h) cnt most rch M C (PPf Y w (w * h)) cc L V (Fof cs)) (pl1 := clAll G (cs)) hP hD [0, 1, 2, 3, 4, 5, 6, 7, 8, 9, 10] [11, 12, 13, 14, 15, 16, 17, 18, 19, 20, 21, 22] rfl rfl rfl (by decide) hk9 hsub9 hP9 hD9
    refine lv_istore (lv' := [(5, .int (zI ((cCov (scF xs (i + 1)) cnt)))), (0, .ref b), (1, .ref xx), (2, .ref md), (3, .ref oa), (4, .int (zI (i)))]) hx hb dL_law_1119 hl (by decide) rfl (fun ls hl => ?_)
    refine lv_aload_n hx hb dL_law_1121 rfl (lv_at hl 3 rfl) ?_
    refine lv_aload_n hx hb dL_law_1122 rfl (lv_at hl 1 rfl) ?_
    refine lv_iload hx hb dL_law_1123 (lv_at hl 5 rfl) ?_
    refine z_iconst hx hb dL_law_1125 ?_
    refine z_iadd hx hb dL_law_1126 ?_
    refine z_sld hx hb hX hbl hbA hS ⟨by omega, by omega, by omega⟩ dL_law_1127 ?_
    refine z_wVl (G := G) (X := mdL G md ma mb mc mt m1 m2 m3 m4 m5 m6 m7 th w h cnt most rch tl (cs.length : Int) M Y C T CA CB CN CG CS Z K ++ (ol G oa ((zsum (fun p9 => (PPf Y w (w * h)) ((scF xs (i + 1)) * (w * h) + p9)) (w * h).toNat)) :: xL G xx pg ik mx co pa cv ca cb ar ((cs).length : Int) w h (w * h) cnt most rch M C (PPf Y w (w * h)) cc L V (Fof cs))) (wc := mdL G md ma mb mc mt m1 m2 m3 m4 m5 m6 m7 th w h cnt most rch tl (cs.length : Int) M Y C T CA CB CN CG CS Z K) (wr := ol G oa ((zsum (fun p9 => (PPf Y w (w * h)) ((scF xs (i + 1)) * (w * h) + p9)) (w * h).toNat)) :: xL G xx pg ik mx co pa cv ca cb ar ((cs).length : Int) w h (w * h) cnt most rch M C (PPf Y w (w * h)) cc L V (Fof cs)) (pl := clAll G (cs)) (q0 := 0) (As := [.int (zI ((scF xs (i + 1))))]) (rest := []) hx hb hml hown hT hK (c_X5_covered l G md ma mb mc mt m1 m2 m3 m4 m5 m6 m7 th w h cnt most rch tl ((cs.length : Nat) : Int) M Y C T CA CB CN CG CS Z K (scF xs (i + 1)) hI.1 r1) kc_L_130 (by dsimp only; omega) (by dsimp only; omega) hP hD hS hA [0, 1, 2, 3, 4, 5, 6, 7, 8, 9, 10, 11] [12, 13, 14, 15, 16, 17, 18, 19, 20, 21, 22] rfl rfl rfl rfl (by decide) rfl rfl rfl rfl hl.1 rfl (Nat.le_of_ble_eq_true rfl) dL_law_1128 (fun u8 H locs hok8 hP hD hS => ?_)
    try dsimp only at hP hD hok8
    try simp only [if_pos hcd] at hP hD
    have hP : zP G (((ol G oa ((zsum (fun p9 => (PPf Y w (w * h)) ((scF xs (i + 1)) * (w * h) + p9)) (w * h).toNat)) :: xL G xx pg ik mx co pa cv ca cb ar ((cs).length : Int) w h (w * h) cnt most rch M C (PPf Y w (w * h)) cc L V (Fof cs)) ++ mdL G md ma mb mc mt m1 m2 m3 m4 m5 m6 m7 (cCov (scF xs (i + 1)) cnt) w h cnt most rch tl (cs.length : Int) M Y C T CA CB CN CG CS Z K) ++ clAll G (cs)) H := hP
    have hD : va_D A (((ol G oa ((zsum (fun p9 => (PPf Y w (w * h)) ((scF xs (i + 1)) * (w * h) + p9)) (w * h).toNat)) :: xL G xx pg ik mx co pa cv ca cb ar ((cs).length : Int) w h (w * h) cnt most rch M C (PPf Y w (w * h)) cc L V (Fof cs)) ++ mdL G md ma mb mc mt m1 m2 m3 m4 m5 m6 m7 (cCov (scF xs (i + 1)) cnt) w h cnt most rch tl (cs.length : Int) M Y C T CA CB CN CG CS Z K) ++ clAll G (cs)) := hD
    refine lv_lstore (lv' := [(6, .long (zL ((if (cCov (scF xs (i + 1)) cnt) = 0 then (zsum (fun p9 => (PPf Y w (w * h)) ((scF xs (i + 1)) * (w * h) + p9)) (w * h).toNat) else 0)))), (5, .int (zI ((cCov (scF xs (i + 1)) cnt)))), (0, .ref b), (1, .ref xx), (2, .ref md), (3, .ref oa), (4, .int (zI (i)))]) hx hb dL_law_1131 hl (by decide) rfl (fun ls hl => ?_)
    refine lv_aload_n hx hb dL_law_1133 rfl (lv_at hl 4 rfl) ?_
    refine z_callV (q0 := 0) (G := G) (As := []) (rest := []) hx hb hml hown hT hK (c_X5_thrown l G md ma mb mc mt m1 m2 m3 m4 m5 m6 m7 (cCov (scF xs (i + 1)) cnt) w h cnt most rch tl (cs.length : Int) M Y C T CA CB CN CG CS Z K) kc_L_81 (by dsimp only; omega) ⟨rfl, rfl⟩ (by dsimp only; omega) ((zP_left hP).sub [11, 12, 13, 14, 15, 16, 17, 18, 19, 20, 21, 22] rfl) rfl rfl rfl rfl hl.1 rfl (Nat.le_of_ble_eq_true rfl) dL_law_1134 ?_
    refine lv_iload hx hb dL_law_1137 (lv_at hl 1 rfl) ?_
    refine z_icmp_eq (tgt := 1144) hx hb dL_law_1139 (by decide) (by omega) (by omega) (fun _ => ?_) (fun h => absurd rfl h)
    refine lv_iload hx hb dL_law_1144 (lv_at hl 1 rfl) ?_
    refine z_if_ne (tgt := 1160) hx hb dL_law_1146 (by decide) (by omega) (fun h => absurd hcd h) (fun _ => ?_)
    refine lv_aload_n hx hb dL_law_1149 rfl (lv_at hl 5 rfl) ?_
    refine z_iconst hx hb dL_law_1150 ?_
    refine z_lald hx hb hK hP 0 rfl dL_law_1151 ?_
    refine lv_lload hx hb dL_law_1152 (lv_at hl 0 rfl) ?_
    refine z_lcmp0 hx hb (by rw [if_pos hcd]) dL_law_1154 ?_
    refine z_if_eq (tgt := 1160) hx hb dL_law_1155 (by decide) (by omega) (fun _ => ?_) (fun h => absurd rfl h)
    refine z_goto (tgt := 1231) hx hb dL_law_1160 (by decide) ?_
    refine W.widen (k := cells + 8) (n := slots + 1000) (by dsimp only; omega) (by dsimp only; omega) ?_
    exact hn (zsum (fun p9 => (PPf Y w (w * h)) ((scF xs (i + 1)) * (w * h) + p9)) (w * h).toNat) (cCov (scF xs (i + 1)) cnt) cnt most rch cc tl M C L V Y T CA CB CN CG CS Z K cs H locs ls (hI) (lv_sub hl [2, 3, 4, 5, 6] rfl) hP hD hS
  · skip
    rw [if_neg hcd] at hP9 hD9
    obtain ⟨hP, hD⟩ := va_joinP (X := (ol G oa ov :: xL G xx pg ik mx co pa cv ca cb ar ((cs).length : Int) w h (w * h) cnt most rch M C (PPf Y w (w * h)) cc L V (Fof cs)) ++ mdL G md ma mb mc mt m1 m2 m3 m4 m5 m6 m7 th w h cnt most rch tl (cs.length : Int) M Y C T CA CB CN CG CS Z K) (cx := ol G oa ov :: xL G xx pg ik mx co pa cv ca cb ar ((cs).length : Int) w h (w * h) cnt most rch M C (PPf Y w (w * h)) cc L V (Fof cs)) (pl := clAll G cs) (wr := mdL G md ma mb mc mt m1 m2 m3 m4 m5 m6 m7 th w h cnt most rch tl (cs.length : Int) M Y C T CA CB CN CG CS Z K) (rx := ol G oa (ov) :: xL G xx pg ik mx co pa cv ca cb ar ((cs).length : Int) w h (w * h) cnt most rch M C (PPf Y w (w * h)) cc L V (Fof cs)) (pl1 := clAll G (cs)) hP hD [0, 1, 2, 3, 4, 5, 6, 7, 8, 9, 10] [11, 12, 13, 14, 15, 16, 17, 18, 19, 20, 21, 22] rfl rfl rfl (by decide) hk9 hsub9 hP9 hD9
    refine lv_istore (lv' := [(5, .int (zI ((cCov (scF xs (i + 1)) cnt)))), (0, .ref b), (1, .ref xx), (2, .ref md), (3, .ref oa), (4, .int (zI (i)))]) hx hb dL_law_1119 hl (by decide) rfl (fun ls hl => ?_)
    refine lv_aload_n hx hb dL_law_1121 rfl (lv_at hl 3 rfl) ?_
    refine lv_aload_n hx hb dL_law_1122 rfl (lv_at hl 1 rfl) ?_
    refine lv_iload hx hb dL_law_1123 (lv_at hl 5 rfl) ?_
    refine z_iconst hx hb dL_law_1125 ?_
    refine z_iadd hx hb dL_law_1126 ?_
    refine z_sld hx hb hX hbl hbA hS ⟨by omega, by omega, by omega⟩ dL_law_1127 ?_
    refine z_wVl (G := G) (X := mdL G md ma mb mc mt m1 m2 m3 m4 m5 m6 m7 th w h cnt most rch tl (cs.length : Int) M Y C T CA CB CN CG CS Z K ++ (ol G oa (ov) :: xL G xx pg ik mx co pa cv ca cb ar ((cs).length : Int) w h (w * h) cnt most rch M C (PPf Y w (w * h)) cc L V (Fof cs))) (wc := mdL G md ma mb mc mt m1 m2 m3 m4 m5 m6 m7 th w h cnt most rch tl (cs.length : Int) M Y C T CA CB CN CG CS Z K) (wr := ol G oa (ov) :: xL G xx pg ik mx co pa cv ca cb ar ((cs).length : Int) w h (w * h) cnt most rch M C (PPf Y w (w * h)) cc L V (Fof cs)) (pl := clAll G (cs)) (q0 := 0) (As := [.int (zI ((scF xs (i + 1))))]) (rest := []) hx hb hml hown hT hK (c_X5_covered l G md ma mb mc mt m1 m2 m3 m4 m5 m6 m7 th w h cnt most rch tl ((cs.length : Nat) : Int) M Y C T CA CB CN CG CS Z K (scF xs (i + 1)) hI.1 r1) kc_L_130 (by dsimp only; omega) (by dsimp only; omega) hP hD hS hA [0, 1, 2, 3, 4, 5, 6, 7, 8, 9, 10, 11] [12, 13, 14, 15, 16, 17, 18, 19, 20, 21, 22] rfl rfl rfl rfl (by decide) rfl rfl rfl rfl hl.1 rfl (Nat.le_of_ble_eq_true rfl) dL_law_1128 (fun u8 H locs hok8 hP hD hS => ?_)
    try dsimp only at hP hD hok8
    try simp only [if_neg hcd] at hP hD
    have hP : zP G (((ol G oa (ov) :: xL G xx pg ik mx co pa cv ca cb ar ((cs).length : Int) w h (w * h) cnt most rch M C (PPf Y w (w * h)) cc L V (Fof cs)) ++ mdL G md ma mb mc mt m1 m2 m3 m4 m5 m6 m7 (cCov (scF xs (i + 1)) cnt) w h cnt most rch tl (cs.length : Int) M Y C T CA CB CN CG CS Z K) ++ clAll G (cs)) H := hP
    have hD : va_D A (((ol G oa (ov) :: xL G xx pg ik mx co pa cv ca cb ar ((cs).length : Int) w h (w * h) cnt most rch M C (PPf Y w (w * h)) cc L V (Fof cs)) ++ mdL G md ma mb mc mt m1 m2 m3 m4 m5 m6 m7 (cCov (scF xs (i + 1)) cnt) w h cnt most rch tl (cs.length : Int) M Y C T CA CB CN CG CS Z K) ++ clAll G (cs)) := hD
    refine lv_lstore (lv' := [(6, .long (zL ((if (cCov (scF xs (i + 1)) cnt) = 0 then (zsum (fun p9 => (PPf Y w (w * h)) ((scF xs (i + 1)) * (w * h) + p9)) (w * h).toNat) else 0)))), (5, .int (zI ((cCov (scF xs (i + 1)) cnt)))), (0, .ref b), (1, .ref xx), (2, .ref md), (3, .ref oa), (4, .int (zI (i)))]) hx hb dL_law_1131 hl (by decide) rfl (fun ls hl => ?_)
    refine lv_aload_n hx hb dL_law_1133 rfl (lv_at hl 4 rfl) ?_
    refine z_callV (q0 := 0) (G := G) (As := []) (rest := []) hx hb hml hown hT hK (c_X5_thrown l G md ma mb mc mt m1 m2 m3 m4 m5 m6 m7 (cCov (scF xs (i + 1)) cnt) w h cnt most rch tl (cs.length : Int) M Y C T CA CB CN CG CS Z K) kc_L_81 (by dsimp only; omega) ⟨rfl, rfl⟩ (by dsimp only; omega) ((zP_left hP).sub [11, 12, 13, 14, 15, 16, 17, 18, 19, 20, 21, 22] rfl) rfl rfl rfl rfl hl.1 rfl (Nat.le_of_ble_eq_true rfl) dL_law_1134 ?_
    refine lv_iload hx hb dL_law_1137 (lv_at hl 1 rfl) ?_
    refine z_icmp_eq (tgt := 1144) hx hb dL_law_1139 (by decide) (by omega) (by omega) (fun _ => ?_) (fun h => absurd rfl h)
    refine lv_iload hx hb dL_law_1144 (lv_at hl 1 rfl) ?_
    refine z_if_ne (tgt := 1160) hx hb dL_law_1146 (by decide) (by omega) (fun _ => ?_) (fun h => absurd h hcd)
    refine z_goto (tgt := 1231) hx hb dL_law_1160 (by decide) ?_
    refine W.widen (k := cells + 8) (n := slots + 1000) (by dsimp only; omega) (by dsimp only; omega) ?_
    exact hn ov (cCov (scF xs (i + 1)) cnt) cnt most rch cc tl M C L V Y T CA CB CN CG CS Z K cs H locs ls (hI) (lv_sub hl [2, 3, 4, 5, 6] rfl) hP hD hS
set_option maxHeartbeats 4000000 in
set_option maxRecDepth 100000 in
theorem law_packed (hc : lawC p l R s m args c G A b Ls xs) (hi : 2 ≤ i ∧ i + 6 ≤ (Ls : Int)) (hI : lInv w h cnt most rch M C cc L V cs tl Y T CN CG CS K) (hl : lv_has ls 8 [(0, .ref b), (1, .ref xx), (2, .ref md), (3, .ref oa), (4, .int (zI i))]) (hP : zP G (lawW G oa xx pg ik mx co pa cv ca cb ar md ma mb mc mt m1 m2 m3 m4 m5 m6 m7 w h ov th cnt most rch cc tl M C L V Y T CA CB CN CG CS Z K cs) H) (hD : va_D A (lawW G oa xx pg ik mx co pa cv ca cb ar md ma mb mc mt m1 m2 m3 m4 m5 m6 m7 w h ov th cnt most rch cc tl M C L V Y T CA CB CN CG CS Z K cs)) (hS : va_S A s.heap H locs) (hcl : cells + 8 ≤ R.cells ∧ slots + 1000 ≤ R.slots) (hn : lawN p l e R s m args below meth c (cells + 8) (slots + 1000) Q G A b oa xx pg ik mx co pa cv ca cb ar md ma mb mc mt m1 m2 m3 m4 m5 m6 m7 i w h) : W p l e R s m args below meth c H locs cells slots Q (F0 m 1163 ls []) := by
  obtain ⟨hx, hb, hml, hown, hT, hK, hXz, hN, hX, hbl, hst, hRf, hRl, hA, hbA, hLs⟩ := hc
  have hP : zP G (((ol G oa ov :: xL G xx pg ik mx co pa cv ca cb ar ((cs).length : Int) w h (w * h) cnt most rch M C (PPf Y w (w * h)) cc L V (Fof cs)) ++ mdL G md ma mb mc mt m1 m2 m3 m4 m5 m6 m7 th w h cnt most rch tl (cs.length : Int) M Y C T CA CB CN CG CS Z K) ++ clAll G cs) H := hP
  have hD : va_D A (((ol G oa ov :: xL G xx pg ik mx co pa cv ca cb ar ((cs).length : Int) w h (w * h) cnt most rch M C (PPf Y w (w * h)) cc L V (Fof cs)) ++ mdL G md ma mb mc mt m1 m2 m3 m4 m5 m6 m7 th w h cnt most rch tl (cs.length : Int) M Y C T CA CB CN CG CS Z K) ++ clAll G cs) := hD
  have r1 := scF_r xs (i + 1)
  have r2 := scF_r xs (i + 2)
  refine lv_aload_n hx hb dL_law_1163 rfl (lv_at hl 1 rfl) ?_
  refine lv_aload_n hx hb dL_law_1164 rfl (lv_at hl 0 rfl) ?_
  refine lv_iload hx hb dL_law_1165 (lv_at hl 4 rfl) ?_
  refine z_iconst hx hb dL_law_1167 ?_
  refine z_iadd hx hb dL_law_1168 ?_
  refine z_sld hx hb hX hbl hbA hS ⟨by omega, by omega, by omega⟩ dL_law_1169 ?_
  refine lv_aload_n hx hb dL_law_1170 rfl (lv_at hl 0 rfl) ?_
  refine lv_iload hx hb dL_law_1171 (lv_at hl 4 rfl) ?_
  refine z_iconst hx hb dL_law_1173 ?_
  refine z_iadd hx hb dL_law_1174 ?_
  refine z_sld hx hb hX hbl hbA hS ⟨by omega, by omega, by omega⟩ dL_law_1175 ?_
  refine lv_aload_n hx hb dL_law_1176 rfl (lv_at hl 3 rfl) ?_
  refine z_sH (G := G) (X := (ol G oa ov :: xL G xx pg ik mx co pa cv ca cb ar ((cs).length : Int) w h (w * h) cnt most rch M C (PPf Y w (w * h)) cc L V (Fof cs)) ++ mdL G md ma mb mc mt m1 m2 m3 m4 m5 m6 m7 th w h cnt most rch tl (cs.length : Int) M Y C T CA CB CN CG CS Z K) (cx := ol G oa ov :: xL G xx pg ik mx co pa cv ca cb ar ((cs).length : Int) w h (w * h) cnt most rch M C (PPf Y w (w * h)) cc L V (Fof cs)) (pl := clAll G cs) (As := [.ref xx, .int (zI ((scF xs (i + 1)))), .int (zI ((scF xs (i + 2)))), .ref oa]) (rest := []) hx hb hml hown hT hK (c_L_packed l hst G xx pg ik mx co pa cv ca cb ar ((cs.length : Nat) : Int) w h (w * h) cnt most rch M C (PPf Y w (w * h)) cc L V cs (scF xs (i + 1)) (scF xs (i + 2)) oa ov (lInv_pg hI) hI.2.2.1 (lInv_nx hI) hI.2.2.2.2.1 rfl r1 r2) kh_L_131 (by dsimp only; omega) (by dsimp only; omega) hP hD hS hA hXz hN [0, 1, 2, 3, 4, 5, 6, 7, 8, 9, 10] rfl rfl rfl hl.1 rfl (Nat.le_of_ble_eq_true rfl) dL_law_1177 (fun u9 H1 locs1 hok9 hk9 hsub9 hP9 hD9 hS => ?_)
  have hcr : 0 ≤ (cPac (scF xs (i + 1)) (scF xs (i + 2)) cnt (2 * cntB (stR (PPf Y w (w * h)) (w * h) w (scF xs (i + 1))) (w * h).toNat)) ∧ (cPac (scF xs (i + 1)) (scF xs (i + 2)) cnt (2 * cntB (stR (PPf Y w (w * h)) (w * h) w (scF xs (i + 1))) (w * h).toNat)) ≤ 3 := by
    unfold cPac; (repeat' split) <;> omega
  try dsimp only at hP9 hD9 hok9
  by_cases hcd : (cPac (scF xs (i + 1)) (scF xs (i + 2)) cnt (2 * cntB (stR (PPf Y w (w * h)) (w * h) w (scF xs (i + 1))) (w * h).toNat)) = 0
  · skip
    rw [if_pos hcd] at hP9 hD9
    obtain ⟨hP, hD⟩ := va_joinP (X := (ol G oa ov :: xL G xx pg ik mx co pa cv ca cb ar ((cs).length : Int) w h (w * h) cnt most rch M C (PPf Y w (w * h)) cc L V (Fof cs)) ++ mdL G md ma mb mc mt m1 m2 m3 m4 m5 m6 m7 th w h cnt most rch tl (cs.length : Int) M Y C T CA CB CN CG CS Z K) (cx := ol G oa ov :: xL G xx pg ik mx co pa cv ca cb ar ((cs).length : Int) w h (w * h) cnt most rch M C (PPf Y w (w * h)) cc L V (Fof cs)) (pl := clAll G cs) (wr := mdL G md ma mb mc mt m1 m2 m3 m4 m5 m6 m7 th w h cnt most rch tl (cs.length : Int) M Y C T CA CB CN CG CS Z K) (rx := ol G oa ((zI ((if (scF xs (i + 2)) = -1 then 2 * cntB (stR (PPf Y w (w * h)) (w * h) w (scF xs (i + 1))) (w * h).toNat else (if (scF xs (i + 2)) % 2 = 0 then endV (stR (PPf Y w (w * h)) (w * h) w (scF xs (i + 1))) (srF (stR (PPf Y w (w * h)) (w * h) w (scF xs (i + 1))) ((scF xs (i + 2)) / 2) (w * h).toNat) (w * h) - (srF (stR (PPf Y w (w * h)) (w * h) w (scF xs (i + 1))) ((scF xs (i + 2)) / 2) (w * h).toNat) else (PPf Y w (w * h)) ((scF xs (i + 1)) * (w * h) + (srF (stR (PPf Y w (w * h)) (w * h) w (scF xs (i + 1))) ((scF xs (i + 2)) / 2) (w * h).toNat)))))).toInt) :: xL G xx pg ik mx co pa cv ca cb ar ((cs).length : Int) w h (w * h) cnt most rch M C (PPf Y w (w * h)) cc L V (Fof cs)) (pl1 := clAll G (cs)) hP hD [0, 1, 2, 3, 4, 5, 6, 7, 8, 9, 10] [11, 12, 13, 14, 15, 16, 17, 18, 19, 20, 21, 22] rfl rfl rfl (by decide) hk9 hsub9 hP9 hD9
    refine lv_istore (lv' := [(5, .int (zI ((cPac (scF xs (i + 1)) (scF xs (i + 2)) cnt (2 * cntB (stR (PPf Y w (w * h)) (w * h) w (scF xs (i + 1))) (w * h).toNat))))), (0, .ref b), (1, .ref xx), (2, .ref md), (3, .ref oa), (4, .int (zI (i)))]) hx hb dL_law_1180 hl (by decide) rfl (fun ls hl => ?_)
    refine lv_aload_n hx hb dL_law_1182 rfl (lv_at hl 3 rfl) ?_
    refine lv_aload_n hx hb dL_law_1183 rfl (lv_at hl 1 rfl) ?_
    refine lv_iload hx hb dL_law_1184 (lv_at hl 5 rfl) ?_
    refine z_iconst hx hb dL_law_1186 ?_
    refine z_iadd hx hb dL_law_1187 ?_
    refine z_sld hx hb hX hbl hbA hS ⟨by omega, by omega, by omega⟩ dL_law_1188 ?_
    refine lv_aload_n hx hb dL_law_1189 rfl (lv_at hl 1 rfl) ?_
    refine lv_iload hx hb dL_law_1190 (lv_at hl 5 rfl) ?_
    refine z_iconst hx hb dL_law_1192 ?_
    refine z_iadd hx hb dL_law_1193 ?_
    refine z_sld hx hb hX hbl hbA hS ⟨by omega, by omega, by omega⟩ dL_law_1194 ?_
    refine z_wVi (G := G) (X := mdL G md ma mb mc mt m1 m2 m3 m4 m5 m6 m7 th w h cnt most rch tl (cs.length : Int) M Y C T CA CB CN CG CS Z K ++ (ol G oa ((zI ((if (scF xs (i + 2)) = -1 then 2 * cntB (stR (PPf Y w (w * h)) (w * h) w (scF xs (i + 1))) (w * h).toNat else (if (scF xs (i + 2)) % 2 = 0 then endV (stR (PPf Y w (w * h)) (w * h) w (scF xs (i + 1))) (srF (stR (PPf Y w (w * h)) (w * h) w (scF xs (i + 1))) ((scF xs (i + 2)) / 2) (w * h).toNat) (w * h) - (srF (stR (PPf Y w (w * h)) (w * h) w (scF xs (i + 1))) ((scF xs (i + 2)) / 2) (w * h).toNat) else (PPf Y w (w * h)) ((scF xs (i + 1)) * (w * h) + (srF (stR (PPf Y w (w * h)) (w * h) w (scF xs (i + 1))) ((scF xs (i + 2)) / 2) (w * h).toNat)))))).toInt) :: xL G xx pg ik mx co pa cv ca cb ar ((cs).length : Int) w h (w * h) cnt most rch M C (PPf Y w (w * h)) cc L V (Fof cs))) (wc := mdL G md ma mb mc mt m1 m2 m3 m4 m5 m6 m7 th w h cnt most rch tl (cs.length : Int) M Y C T CA CB CN CG CS Z K) (wr := ol G oa ((zI ((if (scF xs (i + 2)) = -1 then 2 * cntB (stR (PPf Y w (w * h)) (w * h) w (scF xs (i + 1))) (w * h).toNat else (if (scF xs (i + 2)) % 2 = 0 then endV (stR (PPf Y w (w * h)) (w * h) w (scF xs (i + 1))) (srF (stR (PPf Y w (w * h)) (w * h) w (scF xs (i + 1))) ((scF xs (i + 2)) / 2) (w * h).toNat) (w * h) - (srF (stR (PPf Y w (w * h)) (w * h) w (scF xs (i + 1))) ((scF xs (i + 2)) / 2) (w * h).toNat) else (PPf Y w (w * h)) ((scF xs (i + 1)) * (w * h) + (srF (stR (PPf Y w (w * h)) (w * h) w (scF xs (i + 1))) ((scF xs (i + 2)) / 2) (w * h).toNat)))))).toInt) :: xL G xx pg ik mx co pa cv ca cb ar ((cs).length : Int) w h (w * h) cnt most rch M C (PPf Y w (w * h)) cc L V (Fof cs)) (pl := clAll G (cs)) (q0 := 0) (As := [.int (zI ((scF xs (i + 1)))), .int (zI ((scF xs (i + 2))))]) (rest := []) hx hb hml hown hT hK (c_X5_packed l G md ma mb mc mt m1 m2 m3 m4 m5 m6 m7 th w h cnt most rch tl ((cs.length : Nat) : Int) M Y C T CA CB CN CG CS Z K (scF xs (i + 1)) (scF xs (i + 2)) hI.1 r1 r2) kc_L_133 (by dsimp only; omega) (by dsimp only; omega) hP hD hS hA [0, 1, 2, 3, 4, 5, 6, 7, 8, 9, 10, 11] [12, 13, 14, 15, 16, 17, 18, 19, 20, 21, 22] rfl rfl rfl rfl (by decide) rfl rfl rfl rfl hl.1 rfl (Nat.le_of_ble_eq_true rfl) dL_law_1195 (fun u8 H locs hok8 hP hD hS => ?_)
    try dsimp only at hP hD hok8
    try simp only [if_pos hcd] at hP hD
    have hP : zP G (((ol G oa ((zI ((if (scF xs (i + 2)) = -1 then 2 * cntB (stR (PPf Y w (w * h)) (w * h) w (scF xs (i + 1))) (w * h).toNat else (if (scF xs (i + 2)) % 2 = 0 then endV (stR (PPf Y w (w * h)) (w * h) w (scF xs (i + 1))) (srF (stR (PPf Y w (w * h)) (w * h) w (scF xs (i + 1))) ((scF xs (i + 2)) / 2) (w * h).toNat) (w * h) - (srF (stR (PPf Y w (w * h)) (w * h) w (scF xs (i + 1))) ((scF xs (i + 2)) / 2) (w * h).toNat) else (PPf Y w (w * h)) ((scF xs (i + 1)) * (w * h) + (srF (stR (PPf Y w (w * h)) (w * h) w (scF xs (i + 1))) ((scF xs (i + 2)) / 2) (w * h).toNat)))))).toInt) :: xL G xx pg ik mx co pa cv ca cb ar ((cs).length : Int) w h (w * h) cnt most rch M C (PPf Y w (w * h)) cc L V (Fof cs)) ++ mdL G md ma mb mc mt m1 m2 m3 m4 m5 m6 m7 (cPac (scF xs (i + 1)) (scF xs (i + 2)) cnt (2 * cntB (stR (PPf Y w (w * h)) (w * h) w (scF xs (i + 1))) (w * h).toNat)) w h cnt most rch tl (cs.length : Int) M Y C T CA CB CN CG CS Z K) ++ clAll G (cs)) H := hP
    have hD : va_D A (((ol G oa ((zI ((if (scF xs (i + 2)) = -1 then 2 * cntB (stR (PPf Y w (w * h)) (w * h) w (scF xs (i + 1))) (w * h).toNat else (if (scF xs (i + 2)) % 2 = 0 then endV (stR (PPf Y w (w * h)) (w * h) w (scF xs (i + 1))) (srF (stR (PPf Y w (w * h)) (w * h) w (scF xs (i + 1))) ((scF xs (i + 2)) / 2) (w * h).toNat) (w * h) - (srF (stR (PPf Y w (w * h)) (w * h) w (scF xs (i + 1))) ((scF xs (i + 2)) / 2) (w * h).toNat) else (PPf Y w (w * h)) ((scF xs (i + 1)) * (w * h) + (srF (stR (PPf Y w (w * h)) (w * h) w (scF xs (i + 1))) ((scF xs (i + 2)) / 2) (w * h).toNat)))))).toInt) :: xL G xx pg ik mx co pa cv ca cb ar ((cs).length : Int) w h (w * h) cnt most rch M C (PPf Y w (w * h)) cc L V (Fof cs)) ++ mdL G md ma mb mc mt m1 m2 m3 m4 m5 m6 m7 (cPac (scF xs (i + 1)) (scF xs (i + 2)) cnt (2 * cntB (stR (PPf Y w (w * h)) (w * h) w (scF xs (i + 1))) (w * h).toNat)) w h cnt most rch tl (cs.length : Int) M Y C T CA CB CN CG CS Z K) ++ clAll G (cs)) := hD
    refine lv_istore (lv' := [(6, .int (zI ((if (cPac (scF xs (i + 1)) (scF xs (i + 2)) cnt (2 * cntB (stR (PPf Y w (w * h)) (w * h) w (scF xs (i + 1))) (w * h).toNat)) = 0 then (if (scF xs (i + 2)) = -1 then 2 * cntB (stR (PPf Y w (w * h)) (w * h) w (scF xs (i + 1))) (w * h).toNat else (if (scF xs (i + 2)) % 2 = 0 then endV (stR (PPf Y w (w * h)) (w * h) w (scF xs (i + 1))) (srF (stR (PPf Y w (w * h)) (w * h) w (scF xs (i + 1))) ((scF xs (i + 2)) / 2) (w * h).toNat) (w * h) - (srF (stR (PPf Y w (w * h)) (w * h) w (scF xs (i + 1))) ((scF xs (i + 2)) / 2) (w * h).toNat) else (PPf Y w (w * h)) ((scF xs (i + 1)) * (w * h) + (srF (stR (PPf Y w (w * h)) (w * h) w (scF xs (i + 1))) ((scF xs (i + 2)) / 2) (w * h).toNat)))) else 0)))), (5, .int (zI ((cPac (scF xs (i + 1)) (scF xs (i + 2)) cnt (2 * cntB (stR (PPf Y w (w * h)) (w * h) w (scF xs (i + 1))) (w * h).toNat))))), (0, .ref b), (1, .ref xx), (2, .ref md), (3, .ref oa), (4, .int (zI (i)))]) hx hb dL_law_1198 hl (by decide) rfl (fun ls hl => ?_)
    refine lv_aload_n hx hb dL_law_1200 rfl (lv_at hl 4 rfl) ?_
    refine z_callV (q0 := 0) (G := G) (As := []) (rest := []) hx hb hml hown hT hK (c_X5_thrown l G md ma mb mc mt m1 m2 m3 m4 m5 m6 m7 (cPac (scF xs (i + 1)) (scF xs (i + 2)) cnt (2 * cntB (stR (PPf Y w (w * h)) (w * h) w (scF xs (i + 1))) (w * h).toNat)) w h cnt most rch tl (cs.length : Int) M Y C T CA CB CN CG CS Z K) kc_L_81 (by dsimp only; omega) ⟨rfl, rfl⟩ (by dsimp only; omega) ((zP_left hP).sub [11, 12, 13, 14, 15, 16, 17, 18, 19, 20, 21, 22] rfl) rfl rfl rfl rfl hl.1 rfl (Nat.le_of_ble_eq_true rfl) dL_law_1201 ?_
    refine lv_iload hx hb dL_law_1204 (lv_at hl 1 rfl) ?_
    refine z_icmp_eq (tgt := 1211) hx hb dL_law_1206 (by decide) (by omega) (by omega) (fun _ => ?_) (fun h => absurd rfl h)
    refine lv_iload hx hb dL_law_1211 (lv_at hl 1 rfl) ?_
    refine z_if_ne (tgt := 1228) hx hb dL_law_1213 (by decide) (by omega) (fun h => absurd hcd h) (fun _ => ?_)
    refine lv_aload_n hx hb dL_law_1216 rfl (lv_at hl 5 rfl) ?_
    refine z_iconst hx hb dL_law_1217 ?_
    refine z_lald hx hb hK hP 0 rfl dL_law_1218 ?_
    refine lv_iload hx hb dL_law_1219 (lv_at hl 0 rfl) ?_
    refine z_i2lw hx hb dL_law_1221 ?_
    refine z_lcmp0 hx hb (by rw [if_pos hcd]) dL_law_1222 ?_
    refine z_if_eq (tgt := 1228) hx hb dL_law_1223 (by decide) (by omega) (fun _ => ?_) (fun h => absurd rfl h)
    refine z_goto (tgt := 1231) hx hb dL_law_1228 (by decide) ?_
    refine W.widen (k := cells + 8) (n := slots + 1000) (by dsimp only; omega) (by dsimp only; omega) ?_
    exact hn ((zI ((if (scF xs (i + 2)) = -1 then 2 * cntB (stR (PPf Y w (w * h)) (w * h) w (scF xs (i + 1))) (w * h).toNat else (if (scF xs (i + 2)) % 2 = 0 then endV (stR (PPf Y w (w * h)) (w * h) w (scF xs (i + 1))) (srF (stR (PPf Y w (w * h)) (w * h) w (scF xs (i + 1))) ((scF xs (i + 2)) / 2) (w * h).toNat) (w * h) - (srF (stR (PPf Y w (w * h)) (w * h) w (scF xs (i + 1))) ((scF xs (i + 2)) / 2) (w * h).toNat) else (PPf Y w (w * h)) ((scF xs (i + 1)) * (w * h) + (srF (stR (PPf Y w (w * h)) (w * h) w (scF xs (i + 1))) ((scF xs (i + 2)) / 2) (w * h).toNat)))))).toInt) (cPac (scF xs (i + 1)) (scF xs (i + 2)) cnt (2 * cntB (stR (PPf Y w (w * h)) (w * h) w (scF xs (i + 1))) (w * h).toNat)) cnt most rch cc tl M C L V Y T CA CB CN CG CS Z K cs H locs ls (hI) (lv_sub hl [2, 3, 4, 5, 6] rfl) hP hD hS
  · skip
    rw [if_neg hcd] at hP9 hD9
    obtain ⟨hP, hD⟩ := va_joinP (X := (ol G oa ov :: xL G xx pg ik mx co pa cv ca cb ar ((cs).length : Int) w h (w * h) cnt most rch M C (PPf Y w (w * h)) cc L V (Fof cs)) ++ mdL G md ma mb mc mt m1 m2 m3 m4 m5 m6 m7 th w h cnt most rch tl (cs.length : Int) M Y C T CA CB CN CG CS Z K) (cx := ol G oa ov :: xL G xx pg ik mx co pa cv ca cb ar ((cs).length : Int) w h (w * h) cnt most rch M C (PPf Y w (w * h)) cc L V (Fof cs)) (pl := clAll G cs) (wr := mdL G md ma mb mc mt m1 m2 m3 m4 m5 m6 m7 th w h cnt most rch tl (cs.length : Int) M Y C T CA CB CN CG CS Z K) (rx := ol G oa (ov) :: xL G xx pg ik mx co pa cv ca cb ar ((cs).length : Int) w h (w * h) cnt most rch M C (PPf Y w (w * h)) cc L V (Fof cs)) (pl1 := clAll G (cs)) hP hD [0, 1, 2, 3, 4, 5, 6, 7, 8, 9, 10] [11, 12, 13, 14, 15, 16, 17, 18, 19, 20, 21, 22] rfl rfl rfl (by decide) hk9 hsub9 hP9 hD9
    refine lv_istore (lv' := [(5, .int (zI ((cPac (scF xs (i + 1)) (scF xs (i + 2)) cnt (2 * cntB (stR (PPf Y w (w * h)) (w * h) w (scF xs (i + 1))) (w * h).toNat))))), (0, .ref b), (1, .ref xx), (2, .ref md), (3, .ref oa), (4, .int (zI (i)))]) hx hb dL_law_1180 hl (by decide) rfl (fun ls hl => ?_)
    refine lv_aload_n hx hb dL_law_1182 rfl (lv_at hl 3 rfl) ?_
    refine lv_aload_n hx hb dL_law_1183 rfl (lv_at hl 1 rfl) ?_
    refine lv_iload hx hb dL_law_1184 (lv_at hl 5 rfl) ?_
    refine z_iconst hx hb dL_law_1186 ?_
    refine z_iadd hx hb dL_law_1187 ?_
    refine z_sld hx hb hX hbl hbA hS ⟨by omega, by omega, by omega⟩ dL_law_1188 ?_
    refine lv_aload_n hx hb dL_law_1189 rfl (lv_at hl 1 rfl) ?_
    refine lv_iload hx hb dL_law_1190 (lv_at hl 5 rfl) ?_
    refine z_iconst hx hb dL_law_1192 ?_
    refine z_iadd hx hb dL_law_1193 ?_
    refine z_sld hx hb hX hbl hbA hS ⟨by omega, by omega, by omega⟩ dL_law_1194 ?_
    refine z_wVi (G := G) (X := mdL G md ma mb mc mt m1 m2 m3 m4 m5 m6 m7 th w h cnt most rch tl (cs.length : Int) M Y C T CA CB CN CG CS Z K ++ (ol G oa (ov) :: xL G xx pg ik mx co pa cv ca cb ar ((cs).length : Int) w h (w * h) cnt most rch M C (PPf Y w (w * h)) cc L V (Fof cs))) (wc := mdL G md ma mb mc mt m1 m2 m3 m4 m5 m6 m7 th w h cnt most rch tl (cs.length : Int) M Y C T CA CB CN CG CS Z K) (wr := ol G oa (ov) :: xL G xx pg ik mx co pa cv ca cb ar ((cs).length : Int) w h (w * h) cnt most rch M C (PPf Y w (w * h)) cc L V (Fof cs)) (pl := clAll G (cs)) (q0 := 0) (As := [.int (zI ((scF xs (i + 1)))), .int (zI ((scF xs (i + 2))))]) (rest := []) hx hb hml hown hT hK (c_X5_packed l G md ma mb mc mt m1 m2 m3 m4 m5 m6 m7 th w h cnt most rch tl ((cs.length : Nat) : Int) M Y C T CA CB CN CG CS Z K (scF xs (i + 1)) (scF xs (i + 2)) hI.1 r1 r2) kc_L_133 (by dsimp only; omega) (by dsimp only; omega) hP hD hS hA [0, 1, 2, 3, 4, 5, 6, 7, 8, 9, 10, 11] [12, 13, 14, 15, 16, 17, 18, 19, 20, 21, 22] rfl rfl rfl rfl (by decide) rfl rfl rfl rfl hl.1 rfl (Nat.le_of_ble_eq_true rfl) dL_law_1195 (fun u8 H locs hok8 hP hD hS => ?_)
    try dsimp only at hP hD hok8
    try simp only [if_neg hcd] at hP hD
    have hP : zP G (((ol G oa (ov) :: xL G xx pg ik mx co pa cv ca cb ar ((cs).length : Int) w h (w * h) cnt most rch M C (PPf Y w (w * h)) cc L V (Fof cs)) ++ mdL G md ma mb mc mt m1 m2 m3 m4 m5 m6 m7 (cPac (scF xs (i + 1)) (scF xs (i + 2)) cnt (2 * cntB (stR (PPf Y w (w * h)) (w * h) w (scF xs (i + 1))) (w * h).toNat)) w h cnt most rch tl (cs.length : Int) M Y C T CA CB CN CG CS Z K) ++ clAll G (cs)) H := hP
    have hD : va_D A (((ol G oa (ov) :: xL G xx pg ik mx co pa cv ca cb ar ((cs).length : Int) w h (w * h) cnt most rch M C (PPf Y w (w * h)) cc L V (Fof cs)) ++ mdL G md ma mb mc mt m1 m2 m3 m4 m5 m6 m7 (cPac (scF xs (i + 1)) (scF xs (i + 2)) cnt (2 * cntB (stR (PPf Y w (w * h)) (w * h) w (scF xs (i + 1))) (w * h).toNat)) w h cnt most rch tl (cs.length : Int) M Y C T CA CB CN CG CS Z K) ++ clAll G (cs)) := hD
    refine lv_istore (lv' := [(6, .int (zI ((if (cPac (scF xs (i + 1)) (scF xs (i + 2)) cnt (2 * cntB (stR (PPf Y w (w * h)) (w * h) w (scF xs (i + 1))) (w * h).toNat)) = 0 then (if (scF xs (i + 2)) = -1 then 2 * cntB (stR (PPf Y w (w * h)) (w * h) w (scF xs (i + 1))) (w * h).toNat else (if (scF xs (i + 2)) % 2 = 0 then endV (stR (PPf Y w (w * h)) (w * h) w (scF xs (i + 1))) (srF (stR (PPf Y w (w * h)) (w * h) w (scF xs (i + 1))) ((scF xs (i + 2)) / 2) (w * h).toNat) (w * h) - (srF (stR (PPf Y w (w * h)) (w * h) w (scF xs (i + 1))) ((scF xs (i + 2)) / 2) (w * h).toNat) else (PPf Y w (w * h)) ((scF xs (i + 1)) * (w * h) + (srF (stR (PPf Y w (w * h)) (w * h) w (scF xs (i + 1))) ((scF xs (i + 2)) / 2) (w * h).toNat)))) else 0)))), (5, .int (zI ((cPac (scF xs (i + 1)) (scF xs (i + 2)) cnt (2 * cntB (stR (PPf Y w (w * h)) (w * h) w (scF xs (i + 1))) (w * h).toNat))))), (0, .ref b), (1, .ref xx), (2, .ref md), (3, .ref oa), (4, .int (zI (i)))]) hx hb dL_law_1198 hl (by decide) rfl (fun ls hl => ?_)
    refine lv_aload_n hx hb dL_law_1200 rfl (lv_at hl 4 rfl) ?_
    refine z_callV (q0 := 0) (G := G) (As := []) (rest := []) hx hb hml hown hT hK (c_X5_thrown l G md ma mb mc mt m1 m2 m3 m4 m5 m6 m7 (cPac (scF xs (i + 1)) (scF xs (i + 2)) cnt (2 * cntB (stR (PPf Y w (w * h)) (w * h) w (scF xs (i + 1))) (w * h).toNat)) w h cnt most rch tl (cs.length : Int) M Y C T CA CB CN CG CS Z K) kc_L_81 (by dsimp only; omega) ⟨rfl, rfl⟩ (by dsimp only; omega) ((zP_left hP).sub [11, 12, 13, 14, 15, 16, 17, 18, 19, 20, 21, 22] rfl) rfl rfl rfl rfl hl.1 rfl (Nat.le_of_ble_eq_true rfl) dL_law_1201 ?_
    refine lv_iload hx hb dL_law_1204 (lv_at hl 1 rfl) ?_
    refine z_icmp_eq (tgt := 1211) hx hb dL_law_1206 (by decide) (by omega) (by omega) (fun _ => ?_) (fun h => absurd rfl h)
    refine lv_iload hx hb dL_law_1211 (lv_at hl 1 rfl) ?_
    refine z_if_ne (tgt := 1228) hx hb dL_law_1213 (by decide) (by omega) (fun _ => ?_) (fun h => absurd h hcd)
    refine z_goto (tgt := 1231) hx hb dL_law_1228 (by decide) ?_
    refine W.widen (k := cells + 8) (n := slots + 1000) (by dsimp only; omega) (by dsimp only; omega) ?_
    exact hn ov (cPac (scF xs (i + 1)) (scF xs (i + 2)) cnt (2 * cntB (stR (PPf Y w (w * h)) (w * h) w (scF xs (i + 1))) (w * h).toNat)) cnt most rch cc tl M C L V Y T CA CB CN CG CS Z K cs H locs ls (hI) (lv_sub hl [2, 3, 4, 5, 6] rfl) hP hD hS
set_option maxHeartbeats 4000000 in
set_option maxRecDepth 100000 in
theorem law_paint (hc : lawC p l R s m args c G A b Ls xs) (hi : 2 ≤ i ∧ i + 6 ≤ (Ls : Int)) (hI : lInv w h cnt most rch M C cc L V cs tl Y T CN CG CS K) (hl : lv_has ls 8 [(0, .ref b), (1, .ref xx), (2, .ref md), (3, .ref oa), (4, .int (zI i))]) (hP : zP G (lawW G oa xx pg ik mx co pa cv ca cb ar md ma mb mc mt m1 m2 m3 m4 m5 m6 m7 w h ov th cnt most rch cc tl M C L V Y T CA CB CN CG CS Z K cs) H) (hD : va_D A (lawW G oa xx pg ik mx co pa cv ca cb ar md ma mb mc mt m1 m2 m3 m4 m5 m6 m7 w h ov th cnt most rch cc tl M C L V Y T CA CB CN CG CS Z K cs)) (hS : va_S A s.heap H locs) (hcl : cells + 8 ≤ R.cells ∧ slots + 1000 ≤ R.slots) (hn : lawN p l e R s m args below meth c (cells + 8) (slots + 1000) Q G A b oa xx pg ik mx co pa cv ca cb ar md ma mb mc mt m1 m2 m3 m4 m5 m6 m7 i w h) : W p l e R s m args below meth c H locs cells slots Q (F0 m 276 ls []) := by
  obtain ⟨hx, hb, hml, hown, hT, hK, hXz, hN, hX, hbl, hst, hRf, hRl, hA, hbA, hLs⟩ := hc
  have hP : zP G (((ol G oa ov :: xL G xx pg ik mx co pa cv ca cb ar ((cs).length : Int) w h (w * h) cnt most rch M C (PPf Y w (w * h)) cc L V (Fof cs)) ++ mdL G md ma mb mc mt m1 m2 m3 m4 m5 m6 m7 th w h cnt most rch tl (cs.length : Int) M Y C T CA CB CN CG CS Z K) ++ clAll G cs) H := hP
  have hD : va_D A (((ol G oa ov :: xL G xx pg ik mx co pa cv ca cb ar ((cs).length : Int) w h (w * h) cnt most rch M C (PPf Y w (w * h)) cc L V (Fof cs)) ++ mdL G md ma mb mc mt m1 m2 m3 m4 m5 m6 m7 th w h cnt most rch tl (cs.length : Int) M Y C T CA CB CN CG CS Z K) ++ clAll G cs) := hD
  have r1 := scF_r xs (i + 1)
  have r2 := scF_r xs (i + 2)
  have r3 := scF_r xs (i + 3)
  have r4 := scF_r xs (i + 4)
  have r5 := scF_r xs (i + 5)
  refine lv_aload_n hx hb dL_law_276 rfl (lv_at hl 1 rfl) ?_
  refine lv_aload_n hx hb dL_law_277 rfl (lv_at hl 0 rfl) ?_
  refine lv_iload hx hb dL_law_278 (lv_at hl 4 rfl) ?_
  refine z_iconst hx hb dL_law_280 ?_
  refine z_iadd hx hb dL_law_281 ?_
  refine z_sld hx hb hX hbl hbA hS ⟨by omega, by omega, by omega⟩ dL_law_282 ?_
  refine lv_aload_n hx hb dL_law_283 rfl (lv_at hl 0 rfl) ?_
  refine lv_iload hx hb dL_law_284 (lv_at hl 4 rfl) ?_
  refine z_iconst hx hb dL_law_286 ?_
  refine z_iadd hx hb dL_law_287 ?_
  refine z_sld hx hb hX hbl hbA hS ⟨by omega, by omega, by omega⟩ dL_law_288 ?_
  refine lv_aload_n hx hb dL_law_289 rfl (lv_at hl 0 rfl) ?_
  refine lv_iload hx hb dL_law_290 (lv_at hl 4 rfl) ?_
  refine z_iconst hx hb dL_law_292 ?_
  refine z_iadd hx hb dL_law_293 ?_
  refine z_sld hx hb hX hbl hbA hS ⟨by omega, by omega, by omega⟩ dL_law_294 ?_
  refine lv_aload_n hx hb dL_law_295 rfl (lv_at hl 0 rfl) ?_
  refine lv_iload hx hb dL_law_296 (lv_at hl 4 rfl) ?_
  refine z_iconst hx hb dL_law_298 ?_
  refine z_iadd hx hb dL_law_299 ?_
  refine z_sld hx hb hX hbl hbA hS ⟨by omega, by omega, by omega⟩ dL_law_300 ?_
  refine lv_aload_n hx hb dL_law_301 rfl (lv_at hl 0 rfl) ?_
  refine lv_iload hx hb dL_law_302 (lv_at hl 4 rfl) ?_
  refine z_iconst hx hb dL_law_304 ?_
  refine z_iadd hx hb dL_law_305 ?_
  refine z_sld hx hb hX hbl hbA hS ⟨by omega, by omega, by omega⟩ dL_law_306 ?_
  refine z_ne0 hx hb (scF_r _ _) dL_law_307 dL_law_310 dL_law_311 dL_law_314 ?_
  refine z_wVi (G := G) (X := (ol G oa ov :: xL G xx pg ik mx co pa cv ca cb ar ((cs).length : Int) w h (w * h) cnt most rch M C (PPf Y w (w * h)) cc L V (Fof cs)) ++ mdL G md ma mb mc mt m1 m2 m3 m4 m5 m6 m7 th w h cnt most rch tl (cs.length : Int) M Y C T CA CB CN CG CS Z K) (wc := xL G xx pg ik mx co pa cv ca cb ar ((cs).length : Int) w h (w * h) cnt most rch M C (PPf Y w (w * h)) cc L V (Fof cs)) (wr := ol G oa ov :: mdL G md ma mb mc mt m1 m2 m3 m4 m5 m6 m7 th w h cnt most rch tl (cs.length : Int) M Y C T CA CB CN CG CS Z K) (pl := clAll G cs) (q0 := 0) (As := [.int (zI ((scF xs (i + 1)))), .int (zI ((scF xs (i + 2)))), .int (zI ((scF xs (i + 3)))), .int (zI ((scF xs (i + 4)))), .int (zI ((if scF xs (i + 5) = 0 then 0 else 1)))]) (rest := []) hx hb hml hown hT hK (c_X4_paint l G xx pg ik mx co pa cv ca cb ar ((cs.length : Nat) : Int) w h (w * h) cnt most rch M C (PPf Y w (w * h)) cc L V (Fof cs) (scF xs (i + 1)) (scF xs (i + 2)) (scF xs (i + 3)) (scF xs (i + 4)) (if scF xs (i + 5) = 0 then 0 else 1) (lInv_pg hI) hI.2.2.1 (lInv_nx hI) r1 r2 r3 r4 (z01 _)) kc_L_89 (by dsimp only; omega) (by dsimp only; omega) hP hD hS hA [1, 2, 3, 4, 5, 6, 7, 8, 9, 10] [0, 11, 12, 13, 14, 15, 16, 17, 18, 19, 20, 21, 22] rfl rfl rfl rfl (by decide) rfl rfl rfl rfl hl.1 rfl (Nat.le_of_ble_eq_true rfl) dL_law_315 (fun u9 H locs hok9 hP hD hS => ?_)
  refine lv_aload_n hx hb dL_law_318 rfl (lv_at hl 2 rfl) ?_
  refine lv_aload_n hx hb dL_law_319 rfl (lv_at hl 0 rfl) ?_
  refine lv_iload hx hb dL_law_320 (lv_at hl 4 rfl) ?_
  refine z_iconst hx hb dL_law_322 ?_
  refine z_iadd hx hb dL_law_323 ?_
  refine z_sld hx hb hX hbl hbA hS ⟨by omega, by omega, by omega⟩ dL_law_324 ?_
  refine lv_aload_n hx hb dL_law_325 rfl (lv_at hl 0 rfl) ?_
  refine lv_iload hx hb dL_law_326 (lv_at hl 4 rfl) ?_
  refine z_iconst hx hb dL_law_328 ?_
  refine z_iadd hx hb dL_law_329 ?_
  refine z_sld hx hb hX hbl hbA hS ⟨by omega, by omega, by omega⟩ dL_law_330 ?_
  refine lv_aload_n hx hb dL_law_331 rfl (lv_at hl 0 rfl) ?_
  refine lv_iload hx hb dL_law_332 (lv_at hl 4 rfl) ?_
  refine z_iconst hx hb dL_law_334 ?_
  refine z_iadd hx hb dL_law_335 ?_
  refine z_sld hx hb hX hbl hbA hS ⟨by omega, by omega, by omega⟩ dL_law_336 ?_
  refine lv_aload_n hx hb dL_law_337 rfl (lv_at hl 0 rfl) ?_
  refine lv_iload hx hb dL_law_338 (lv_at hl 4 rfl) ?_
  refine z_iconst hx hb dL_law_340 ?_
  refine z_iadd hx hb dL_law_341 ?_
  refine z_sld hx hb hX hbl hbA hS ⟨by omega, by omega, by omega⟩ dL_law_342 ?_
  refine lv_aload_n hx hb dL_law_343 rfl (lv_at hl 0 rfl) ?_
  refine lv_iload hx hb dL_law_344 (lv_at hl 4 rfl) ?_
  refine z_iconst hx hb dL_law_346 ?_
  refine z_iadd hx hb dL_law_347 ?_
  refine z_sld hx hb hX hbl hbA hS ⟨by omega, by omega, by omega⟩ dL_law_348 ?_
  refine z_ne0 hx hb (scF_r _ _) dL_law_349 dL_law_352 dL_law_353 dL_law_356 ?_
  refine z_wVi (G := G) (X := (ol G oa ov :: mdL G md ma mb mc mt m1 m2 m3 m4 m5 m6 m7 th w h cnt most rch tl (cs.length : Int) M Y C T CA CB CN CG CS Z K) ++ xL G xx pg ik mx co pa cv ca cb ar ((cs).length : Int) w h (w * h) cnt most rch M C (PA (PPf Y w (w * h)) (w * h) (inRc (scF xs (i + 1)) (scF xs (i + 2)) (scF xs (i + 3)) (scF xs (i + 4)) w) (ptF C (if scF xs (i + 5) = 0 then 0 else 1) cnt most)) cc L V (Fof cs)) (wc := mdL G md ma mb mc mt m1 m2 m3 m4 m5 m6 m7 th w h cnt most rch tl (cs.length : Int) M Y C T CA CB CN CG CS Z K) (wr := ol G oa ov :: xL G xx pg ik mx co pa cv ca cb ar ((cs).length : Int) w h (w * h) cnt most rch M C (PA (PPf Y w (w * h)) (w * h) (inRc (scF xs (i + 1)) (scF xs (i + 2)) (scF xs (i + 3)) (scF xs (i + 4)) w) (ptF C (if scF xs (i + 5) = 0 then 0 else 1) cnt most)) cc L V (Fof cs)) (pl := clAll G cs) (q0 := 0) (As := [.int (zI ((scF xs (i + 1)))), .int (zI ((scF xs (i + 2)))), .int (zI ((scF xs (i + 3)))), .int (zI ((scF xs (i + 4)))), .int (zI ((if scF xs (i + 5) = 0 then 0 else 1)))]) (rest := [.int (zI (cntB (inRc (scF xs (i + 1)) (scF xs (i + 2)) (scF xs (i + 3)) (scF xs (i + 4)) w) (w * h).toNat))]) hx hb hml hown hT hK (c_X5_paint l G md ma mb mc mt m1 m2 m3 m4 m5 m6 m7 th w h cnt most rch tl ((cs.length : Nat) : Int) M Y C T CA CB CN CG CS Z K (scF xs (i + 1)) (scF xs (i + 2)) (scF xs (i + 3)) (scF xs (i + 4)) (if scF xs (i + 5) = 0 then 0 else 1) hI.1 r1 r2 r3 r4 (z01 _)) kc_L_93 (by dsimp only; omega) (by dsimp only; omega) hP hD hS hA [1, 2, 3, 4, 5, 6, 7, 8, 9, 10, 11, 12] [0, 13, 14, 15, 16, 17, 18, 19, 20, 21, 22] rfl rfl rfl rfl (by decide) rfl rfl rfl rfl hl.1 rfl (Nat.le_of_ble_eq_true rfl) dL_law_357 (fun u8 H locs hok8 hP hD hS => ?_)
  have hpt := pgOK_pts (lInv_pg hI)
  have hcb := cntB_b (inRc (scF xs (i + 1)) (scF xs (i + 2)) (scF xs (i + 3)) (scF xs (i + 4)) w) (w * h).toNat
  refine z_icmp_eq (tgt := 1231) hx hb dL_law_360 (by decide) (by omega) (by omega) (fun _ => ?_) (fun h => absurd rfl h)
  refine W.widen (k := cells + 8) (n := slots + 1000) (by dsimp only; omega) (by dsimp only; omega) ?_
  have hP : zP G (((ol G oa ov :: xL G xx pg ik mx co pa cv ca cb ar ((cs).length : Int) w h (w * h) cnt most rch M C (PA (PPf Y w (w * h)) (w * h) (inRc (scF xs (i + 1)) (scF xs (i + 2)) (scF xs (i + 3)) (scF xs (i + 4)) w) (ptF C (if scF xs (i + 5) = 0 then 0 else 1) cnt most)) cc L V (Fof cs)) ++ mdL G md ma mb mc mt m1 m2 m3 m4 m5 m6 m7 0 w h cnt most rch tl (cs.length : Int) M (YA Y w h (inRc (scF xs (i + 1)) (scF xs (i + 2)) (scF xs (i + 3)) (scF xs (i + 4)) w) (Fm C (if scF xs (i + 5) = 0 then 0 else 1) cnt most)) C T CA CB CN CG CS Z K) ++ clAll G cs) H := hP
  have hD : va_D A (((ol G oa ov :: xL G xx pg ik mx co pa cv ca cb ar ((cs).length : Int) w h (w * h) cnt most rch M C (PA (PPf Y w (w * h)) (w * h) (inRc (scF xs (i + 1)) (scF xs (i + 2)) (scF xs (i + 3)) (scF xs (i + 4)) w) (ptF C (if scF xs (i + 5) = 0 then 0 else 1) cnt most)) cc L V (Fof cs)) ++ mdL G md ma mb mc mt m1 m2 m3 m4 m5 m6 m7 0 w h cnt most rch tl (cs.length : Int) M (YA Y w h (inRc (scF xs (i + 1)) (scF xs (i + 2)) (scF xs (i + 3)) (scF xs (i + 4)) w) (Fm C (if scF xs (i + 5) = 0 then 0 else 1) cnt most)) C T CA CB CN CG CS Z K) ++ clAll G cs) := hD
  have hm := hI.1
  have hP : zP G (((ol G oa ov :: xL G xx pg ik mx co pa cv ca cb ar ((cs).length : Int) w h (w * h) cnt most rch M C (PPf (YA Y w h (inRc (scF xs (i + 1)) (scF xs (i + 2)) (scF xs (i + 3)) (scF xs (i + 4)) w) (Fm C (if scF xs (i + 5) = 0 then 0 else 1) cnt most)) w (w * h)) cc L V (Fof cs)) ++ mdL G md ma mb mc mt m1 m2 m3 m4 m5 m6 m7 0 w h cnt most rch tl (cs.length : Int) M (YA Y w h (inRc (scF xs (i + 1)) (scF xs (i + 2)) (scF xs (i + 3)) (scF xs (i + 4)) w) (Fm C (if scF xs (i + 5) = 0 then 0 else 1) cnt most)) C T CA CB CN CG CS Z K) ++ clAll G cs) H := zP_set 4 hP rfl rfl (ia_eq (fun j h1 h2 => PA_YA hm.1 hm.2.1.1 rfl hm.2.2.1 hI.2.1 j h1 (by omega)))
  have hD : va_D A (((ol G oa ov :: xL G xx pg ik mx co pa cv ca cb ar ((cs).length : Int) w h (w * h) cnt most rch M C (PPf (YA Y w h (inRc (scF xs (i + 1)) (scF xs (i + 2)) (scF xs (i + 3)) (scF xs (i + 4)) w) (Fm C (if scF xs (i + 5) = 0 then 0 else 1) cnt most)) w (w * h)) cc L V (Fof cs)) ++ mdL G md ma mb mc mt m1 m2 m3 m4 m5 m6 m7 0 w h cnt most rch tl (cs.length : Int) M (YA Y w h (inRc (scF xs (i + 1)) (scF xs (i + 2)) (scF xs (i + 3)) (scF xs (i + 4)) w) (Fm C (if scF xs (i + 5) = 0 then 0 else 1) cnt most)) C T CA CB CN CG CS Z K) ++ clAll G cs) := zD_set 4 (x' := ia G pa (8 * (w * h)).toNat (PPf (YA Y w h (inRc (scF xs (i + 1)) (scF xs (i + 2)) (scF xs (i + 3)) (scF xs (i + 4)) w) (Fm C (if scF xs (i + 5) = 0 then 0 else 1) cnt most)) w (w * h))) hD rfl rfl rfl
  exact hn ov 0 cnt most rch cc tl M C L V (YA Y w h (inRc (scF xs (i + 1)) (scF xs (i + 2)) (scF xs (i + 3)) (scF xs (i + 4)) w) (Fm C (if scF xs (i + 5) = 0 then 0 else 1) cnt most)) T CA CB CN CG CS Z K cs H locs ls (inv_pai hI) hl hP hD hS
end LC