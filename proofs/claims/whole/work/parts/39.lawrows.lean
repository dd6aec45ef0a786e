/-! ===== the law's own rows ===== -/
def scF (xs : Nat → Int32) : Int → Int := fun j => (xs j.toNat).toInt
theorem scF_r (xs : Nat → Int32) (j : Int) : -2147483648 ≤ scF xs j ∧ scF xs j ≤ 2147483647 := zI_rng _
theorem scF_z (xs : Nat → Int32) (j : Int) : zI (scF xs j) = xs j.toNat := zI_of _
def scV (L : Nat) (xs : Nat → Int32) (k : Int) : Int := if k < (L : Int) then scF xs k else 0
theorem scV_r (L : Nat) (xs : Nat → Int32) (k : Int) : -2147483648 ≤ scV L xs k ∧ scV L xs k ≤ 2147483647 := by
  unfold scV; split
  · exact scF_r _ _
  · omega
section ZO
variable {p : Program} {l : Launch} {e : Env} {R : Room} {s : State} {m : MethodId} {args : Array Value} {below : List Frame} {meth : Method} {c : Code} {H : Heap} {locs : List Loc} {cells slots : Nat} {Q : State → Prop} {cc : ByteArray} {pc nL : Nat} {ls : Array Slot} {rest st0 : List Value} {G : zG} {A : Nat → Prop} {H0 : Heap} {ws : va_W}
theorem z_slen (hx : p.tables.exec = Jvm.exec) (hb : c.code = cc) {b L : Nat} {xs : Nat → Int32} (hX : va_X b L xs s H0) (hbl : b < H0.size) (hbA : ¬ A b) (hS : va_S A H0 H locs) (hd : decode cc pc = .ok (.arraylength, 1))
    (k : W p l e R s m args below meth c H locs cells slots Q (F0 m (pc + 1) ls (.int (zI ((L : Nat) : Int)) :: rest))) : W p l e R s m args below meth c H locs cells slots Q (F0 m pc ls (.ref b :: rest)) :=
  va_slen hx hb hX hbl hbA hS hd (by rw [zI_nI]; exact k)
theorem z_sld (hx : p.tables.exec = Jvm.exec) (hb : c.code = cc) {b L : Nat} {xs : Nat → Int32} (hX : va_X b L xs s H0) (hbl : b < H0.size) (hbA : ¬ A b) (hS : va_S A H0 H locs) {i : Int} (hi : 0 ≤ i ∧ i < (L : Int) ∧ i ≤ 2147483647) (hd : decode cc pc = .ok (.iaload, 1))
    (k : W p l e R s m args below meth c H locs cells slots Q (F0 m (pc + 1) ls (.int (zI (scF xs i)) :: rest))) : W p l e R s m args below meth c H locs cells slots Q (F0 m pc ls (.int (zI i) :: .ref b :: rest)) :=
  va_sld hx hb hX hbl hbA hS (zI_in ⟨hi.1, hi.2.1⟩ hi.2.2) hd (by rw [zI_cl ⟨hi.1, hi.2.2⟩, ← scF_z xs i]; exact k)
theorem z_lald (hx : p.tables.exec = Jvm.exec) (hb : c.code = cc) (hK : zK G s) (hP : zP G ws H) (q0 : Nat) {a : Nat} {v : Int} (he : ws[q0]? = some (ol G a v)) (hd : decode cc pc = .ok (.laload, 1))
    (k : W p l e R s m args below meth c H locs cells slots Q (F0 m (pc + 1) ls (.long (zL v) :: rest))) : W p l e R s m args below meth c H locs cells slots Q (F0 m pc ls (.int (zI 0) :: .ref a :: rest)) :=
  va_lald hx hb hK hP q0 2 he rfl zI_0in hd k
theorem z_lcmp0 (hx : p.tables.exec = Jvm.exec) (hb : c.code = cc) {v w : Int} (h : v = w) (hd : decode cc pc = .ok (.lcmp, 1))
    (k : W p l e R s m args below meth c H locs cells slots Q (F0 m (pc + 1) ls (.int (zI 0) :: rest))) : W p l e R s m args below meth c H locs cells slots Q (F0 m pc ls (.long (zL w) :: .long (zL v) :: rest)) := by
  subst h
  refine W.lcmp hx hb hd ?_
  have e1 : lg_cmp (zL v) (zL v) = zI 0 := by
    unfold lg_cmp
    rw [if_neg (by rw [gt_iff_lt, Int64.lt_iff_toInt_lt]; omega), if_pos rfl]; rfl
  rw [e1]; exact k
theorem z_ne0 (hx : p.tables.exec = Jvm.exec) (hb : c.code = cc) {a : Int} (ha : -2147483648 ≤ a ∧ a ≤ 2147483647) (d0 : decode cc pc = .ok (.ifCond .eq 7, 3)) (d3 : decode cc (pc + 3) = .ok (.iconst 1, 1)) (d4 : decode cc (pc + 4) = .ok (.goto 4, 3)) (d7 : decode cc (pc + 7) = .ok (.iconst 0, 1))
    (k : W p l e R s m args below meth c H locs cells slots Q (F0 m (pc + 8) ls (.int (zI (if a = 0 then 0 else 1)) :: rest))) : W p l e R s m args below meth c H locs cells slots Q (F0 m pc ls (.int (zI a) :: rest)) := by
  refine z_if_eq (tgt := pc + 7) hx hb d0 (by omega) ha (fun h => ?_) (fun h => ?_)
  · rw [if_pos h] at k
    exact z_iconst hx hb d7 k
  · rw [if_neg h] at k
    exact z_iconst hx hb d3 (z_goto (tgt := pc + 8) hx hb d4 (by omega) k)
theorem z_ne0l (hx : p.tables.exec = Jvm.exec) (hb : c.code = cc) {a : Int} (ha : -2147483648 ≤ a ∧ a ≤ 2147483647) (d0 : decode cc pc = .ok (.ifCond .eq 7, 3)) (d3 : decode cc (pc + 3) = .ok (.lconst 1, 1)) (d4 : decode cc (pc + 4) = .ok (.goto 4, 3)) (d7 : decode cc (pc + 7) = .ok (.lconst 0, 1))
    (k : W p l e R s m args below meth c H locs cells slots Q (F0 m (pc + 8) ls (.long (zL (if a = 0 then 0 else 1)) :: rest))) : W p l e R s m args below meth c H locs cells slots Q (F0 m pc ls (.int (zI a) :: rest)) := by
  refine z_if_eq (tgt := pc + 7) hx hb d0 (by omega) ha (fun h => ?_) (fun h => ?_)
  · rw [if_pos h] at k
    exact lv_lconst (v := zL 0) hx hb d7 rfl k
  · rw [if_neg h] at k
    exact lv_lconst (v := zL 1) hx hb d3 rfl (z_goto (tgt := pc + 8) hx hb d4 (by omega) k)
def kcH (own : String) (idx : Nat) (y : MethodName) (bytes : ByteArray) (maxL : Nat) (ret : Option FieldType) (hh : List (Nat × Nat × Nat × Nat)) (n : Nat) : Prop :=
  Cond.codeWith y bytes maxL ret hh ∈ TB ∧ Cond.methodLink own idx y ∈ TB ∧ Cond.static y ∈ TB ∧ Cond.initialized y.cls ∈ TB ∧ y.cls ≠ "java/lang/invoke/MethodHandle" ∧ y.cls ≠ "java/lang/invoke/VarHandle" ∧ (parseMethodDescriptor y.desc).map (fun d => d.parameters.length) = some n
theorem z_sH {y : MethodName} {bytes : ByteArray} {maxL index n : Nat} {ret : Option FieldType} {hh : List (Nat × Nat × Nat × Nat)} {own : String} {rm : Room} {As : List Value} {S : Type} {v : S → Int} {ok : S → Prop} {ws2 : S → va_W} {X pl cx : va_W} (hx : p.tables.exec = Jvm.exec) (hb : c.code = cc) (hml : c.maxLocals = nL) (hown : s.vm.findClass own = some m.cls) (hT : ∀ w ∈ TB, w.before args s = true) (hK : zK G s)
    (hM : zWh l y bytes maxL ret hh rm G As (cx ++ pl) v ok ws2) (kc : kcH own index y bytes maxL ret hh n) (hR : rm.frames + 1 ≤ R.frames ∧ 8 + (maxL + 11) + rm.locals ≤ R.locals) (hcell : cells + rm.cells ≤ R.cells ∧ slots + rm.slots ≤ R.slots) (hP : zP G (X ++ pl) H) (hD : va_D A (X ++ pl)) (hS : va_S A s.heap H locs) (hA : ∀ q, s.heap.size ≤ q → A q) (hXz : zX A s s.heap) (hN : zNc s) (isC : List Nat) (hC : isC.map (fun i => X[i]?) = cx.map some) (hnC : va_nd isC = true) (hn : As.length = n) (hls : ls.size = nL) (hst : st0 = As.reverse ++ rest) (hrest : (rest.map fun v => v.category).sum ≤ 8) (hd : decode cc pc = .ok (.invokestatic index, 3))
    (k : ∀ (u : S) (H1 : Heap) (locs1 : List Loc), ok u → (∀ q : Nat, q < H.size → ¬ va_A (cx ++ pl) H.size q → H1[q]? = H[q]?) → (∀ q, va_A (cx ++ pl) H.size q → A q) → zP G (ws2 u) H1 → va_D (va_A (cx ++ pl) H.size) (ws2 u) → va_S A s.heap H1 locs1 → W p l e R s m args below meth c H1 locs1 (cells + rm.cells) (slots + rm.slots) Q (F0 m (pc + 3) ls (.int (zI (v u)) :: rest))) : W p l e R s m args below meth c H locs cells slots Q (F0 m pc ls st0) := by
  obtain ⟨k1, k2, k3, k4, k7, k8, k9⟩ := kc
  have hG : GoodIn TB (va_wsS own index y (Cond.codeWith y bytes maxL ret hh :: TB)) := by
    intro w hw
    have h1 : w ∈ TB := by
      unfold va_wsS at hw
      rcases List.mem_append.mp hw with h | h
      · simp only [List.mem_cons, List.not_mem_nil, or_false] at h
        rcases h with rfl | rfl | rfl <;> assumption
      · exact (List.mem_cons.mp h).elim (fun q => by rw [q]; exact k1) id
    exact ⟨h1, TB_good w h1⟩
  have hPc : zP G (cx ++ pl) H := fun k q hk => hP _ q (va_part isC hC k q hk)
  have hDc : va_D A (cx ++ pl) := hD.part isC hnC hC
  have hsub := va_freeP hD hS hA isC hC
  refine va_calli (vx_runSW (As := As) (rest := rest) (g := F0 m pc ls st0) ⟨hx, hb, hml, hown, hT⟩ (hM H.size) (vx_cwSW n hT hG rfl rfl rfl ⟨k7, k8, k9⟩ hR) ⟨zPh_blind G _ _ _, fun U hU hW => ⟨rfl, by rw [hU], by rw [hU]; exact hPc, va_K.moved hW.alike hK, hDc.weaken (fun _ _ _ _ => trivial), ⟨by rw [hU]; exact vx_Zq.moved hW.alike ((hXz.1.kept (fun a h1 h2 => hS.2.1 a h1 h2)).narrow hsub), by rw [hU]; exact vx_Zq.moved hW.alike ((hXz.2.1.kept (fun a h1 h2 => hS.2.1 a h1 h2)).narrow hsub), fun z hz => by obtain ⟨b9, hb9⟩ := hXz.2.2.1 z hz; exact ⟨b9, vk_R.warm hW hb9⟩, zNg.warm hW hXz.2.2.2⟩, zNc.moved hW.alike hN⟩⟩ rfl hn hls hst (lv_room hrest) hd hcell) hS (fun q _ h => hsub q h) hsub (fun r u t H1 locs1 ht hvm hw hB hz1 hk1 hS1 => ?_)
  obtain ⟨hP1, hK1, hD1⟩ := hB
  rw [ht] at hP1
  rw [hw.1]
  exact k u H1 locs1 hw.2 hk1 hsub hP1 hD1 hS1
theorem z_loopC {σ : Type} (fr : σ → JFrame) (I : σ → Prop) (ws : σ → va_W) (μ : σ → Nat) (cs sl : σ → Nat) (hs : ∀ a (H : Heap) (locs : List Loc), I a → zP G (ws a) H → va_D A (ws a) → va_S A H0 H locs → (∀ b (H : Heap) (locs : List Loc), I b → μ b < μ a → zP G (ws b) H → va_D A (ws b) → va_S A H0 H locs → W p l e R s m args below meth c H locs (cs b) (sl b) Q (fr b)) → W p l e R s m args below meth c H locs (cs a) (sl a) Q (fr a)) (a : σ) (h : I a) (hP : zP G (ws a) H) (hD : va_D A (ws a)) (hS : va_S A H0 H locs) : W p l e R s m args below meth c H locs (cs a) (sl a) Q (fr a) := by
  have key : ∀ n a (H : Heap) (locs : List Loc), I a → μ a < n → zP G (ws a) H → va_D A (ws a) → va_S A H0 H locs → W p l e R s m args below meth c H locs (cs a) (sl a) Q (fr a) := by
    intro n
    induction n with
    | zero => intro a _ _ _ h; exact absurd h (Nat.not_lt_zero _)
    | succ n ih => intro a H locs ha hn h1 h2 h3; exact hs a H locs ha h1 h2 h3 (fun b H locs hb hlt h1 h2 h3 => ih b H locs hb (by omega) h1 h2 h3)
  exact key (μ a + 1) a H locs h (Nat.lt_succ_self _) hP hD hS
theorem z_call1 {y : MethodName} {bytes : ByteArray} {maxL index n : Nat} {ret : Option FieldType} {own : String} {rm : Room} {As : List Value} {b L : Nat} {xs : Nat → Int32} {v : Int} (hx : p.tables.exec = Jvm.exec) (hb : c.code = cc) (hml : c.maxLocals = nL) (hown : s.vm.findClass own = some m.cls) (hT : ∀ w ∈ TB, w.before args s = true)
    (hM : Met l y (Cond.code y bytes maxL ret :: TB) rm (va_Pc As (fun U => va_X b L xs U U.heap)) (vp_Si (fun r => r = zI v)) 0 0 (fun _ => False)) (kc : kcS own index y bytes maxL ret n) (hR : rm.frames + 1 ≤ R.frames ∧ 8 + (maxL + 11) + rm.locals ≤ R.locals) (hcs : rm.cells = 0 ∧ rm.slots = 0) (hcell : cells ≤ R.cells ∧ slots ≤ R.slots) (hX : va_X b L xs s H) (hn : As.length = n) (hls : ls.size = nL) (hst : st0 = As.reverse ++ rest) (hrest : (rest.map fun v => v.category).sum ≤ 8) (hd : decode cc pc = .ok (.invokestatic index, 3))
    (k : W p l e R s m args below meth c H locs cells slots Q (F0 m (pc + 3) ls (.int (zI v) :: rest))) : W p l e R s m args below meth c H locs cells slots Q (F0 m pc ls st0) := by
  obtain ⟨k1, k2, k3, k4, k7, k8, k9⟩ := kc
  refine vp_callSi (W.runS (As := As) (rest := rest) (g := F0 m pc ls st0) ⟨hx, hb, hml, hown, hT⟩ hM ⟨callB_of n hT (TB_self k1) rfl hcs.1 hcs.2 (hT _ k4) (hT _ k2) ⟨k7, k8, k9⟩ hR, hT _ k3⟩ ⟨fun a U g mk q => ⟨q.1, va_X.moved (u := U) (U := U.calling g mk a) (Vm.Alike.refl U.vm) q.2⟩, fun U hU hW => ⟨rfl, by show va_X b L xs U U.heap; rw [hU]; exact va_X.moved hW.alike hX⟩⟩ rfl hn hls hst (lv_room hrest) hd ⟨by omega, by omega⟩) (fun r hr => ?_)
  rw [hr]; exact k
end ZO
set_option maxHeartbeats 4000000 in
theorem c_L_cell (l : Launch) (b L : Nat) (xs : Nat → Int32) (hL : L ≤ 3074) (k : Int) (hk : 0 ≤ k ∧ k ≤ 10) : Met l yL_cell (Cond.code yL_cell cL_cell 2 (some .int) :: TB) { frames := 0, cells := 0, slots := 0, locals := 0 } (va_Pc [.ref b, .int (zI k)] (fun U => va_X b L xs U U.heap)) (vp_Si (fun r => r = zI (scV L xs k))) 0 0 (fun _ => False) := by
  refine Met.ofW (cc := cL_cell) (maxL := 2) (ret := (some .int)) (by decide) rfl ?_
  intro p e s m args below meth c s₁ B hml hv
  obtain ⟨rfl, hX⟩ := hv
  have hx := B.exec
  have hb := B.bytes
  have hr := B.returns
  have hlocks := B.notSynchronized
  have hbl : b < s.heap.size := by
    obtain ⟨scr, h1, -⟩ := hX
    exact (Array.getElem?_eq_some_iff.mp h1).1
  have hS : va_S (fun _ => False) s.heap s.heap [] := va_S.rf
  have hl := lv_entry ([.ref b, .int (zI k)]) (n := 2) (Nat.le_of_ble_eq_true rfl)
  rw [lg_entry_eq]
  generalize (lg_sl ([.ref b, .int (zI k)]) ++ List.replicate (2 - (lg_sl ([.ref b, .int (zI k)])).length) Slot.unset).toArray = ls at hl ⊢
  have hl : lv_has ls 2 [(0, .ref b), (1, .int (zI k))] := hl
  refine lv_iload_n hx hb dL_cell_0 rfl (lv_at hl 1 rfl) ?_
  refine lv_aload_n hx hb dL_cell_1 rfl (lv_at hl 0 rfl) ?_
  refine z_slen hx hb hX hbl (fun f => f) hS dL_cell_2 ?_
  refine z_icmp_ge (tgt := 12) hx hb dL_cell_3 (by decide) (by omega) (by omega) (fun h3 => ?_) (fun h3 => ?_)
  · refine z_iconst hx hb dL_cell_12 ?_
    exact z_iret hx hb hr hlocks (by unfold scV; rw [if_neg (by omega)]) dL_cell_13
  · refine lv_aload_n hx hb dL_cell_6 rfl (lv_at hl 0 rfl) ?_
    refine lv_iload_n hx hb dL_cell_7 rfl (lv_at hl 1 rfl) ?_
    refine z_sld hx hb hX hbl (fun f => f) hS (by omega) dL_cell_8 ?_
    refine z_goto (tgt := 13) hx hb dL_cell_9 (by decide) ?_
    exact z_iret hx hb hr hlocks (by unfold scV; rw [if_pos (by omega)]) dL_cell_13

theorem kh_L_77 : kcH RL 77 yL_ink cL_ink 7 (some .int) [(0, 14, 17, 13), (0, 14, 21, 15)] 6 := ⟨(mT 175 (by decide +kernel) rfl), (mT 173 (by decide +kernel) rfl), (mT 174 (by decide +kernel) rfl), (mT 28 (by decide +kernel) rfl), by decide, by decide, by decide +kernel⟩
theorem kh_L_85 : kcH RL 85 yL_colour cL_colour 4 (some .int) [(0, 6, 9, 13), (0, 6, 12, 21)] 3 := ⟨(mT 276 (by decide +kernel) rfl), (mT 274 (by decide +kernel) rfl), (mT 275 (by decide +kernel) rfl), (mT 28 (by decide +kernel) rfl), by decide, by decide, by decide +kernel⟩
theorem kh_L_94 : kcH RL 94 yL_limit cL_limit 4 (some .int) [(0, 9, 12, 13)] 3 := ⟨(mT 310 (by decide +kernel) rfl), (mT 308 (by decide +kernel) rfl), (mT 309 (by decide +kernel) rfl), (mT 28 (by decide +kernel) rfl), by decide, by decide, by decide +kernel⟩
theorem kh_L_98 : kcH RL 98 yL_plate cL_plate 7 (some .int) [(0, 14, 17, 13), (0, 14, 21, 21)] 6 := ⟨(mT 318 (by decide +kernel) rfl), (mT 316 (by decide +kernel) rfl), (mT 317 (by decide +kernel) rfl), (mT 28 (by decide +kernel) rfl), by decide, by decide, by decide +kernel⟩
theorem kh_L_101 : kcH RL 101 yL_seen cL_seen 7 (some .int) [(0, 14, 17, 21)] 6 := ⟨(mT 368 (by decide +kernel) rfl), (mT 366 (by decide +kernel) rfl), (mT 367 (by decide +kernel) rfl), (mT 28 (by decide +kernel) rfl), by decide, by decide, by decide +kernel⟩
theorem kh_L_105 : kcH RL 105 yL_lender cL_lender 5 (some .int) [(0, 10, 13, 21)] 4 := ⟨(mT 377 (by decide +kernel) rfl), (mT 375 (by decide +kernel) rfl), (mT 376 (by decide +kernel) rfl), (mT 28 (by decide +kernel) rfl), by decide, by decide, by decide +kernel⟩
theorem kh_L_109 : kcH RL 109 yL_width cL_width 4 (some .int) [(0, 9, 12, 13)] 3 := ⟨(mT 384 (by decide +kernel) rfl), (mT 382 (by decide +kernel) rfl), (mT 383 (by decide +kernel) rfl), (mT 28 (by decide +kernel) rfl), by decide, by decide, by decide +kernel⟩
theorem kh_L_112 : kcH RL 112 yL_gain cL_gain 4 (some .int) [(0, 6, 9, 13), (0, 6, 12, 15)] 3 := ⟨(mT 392 (by decide +kernel) rfl), (mT 390 (by decide +kernel) rfl), (mT 391 (by decide +kernel) rfl), (mT 28 (by decide +kernel) rfl), by decide, by decide, by decide +kernel⟩
theorem kh_L_115 : kcH RL 115 yL_cell_ cL_cell_ 5 (some .int) [(0, 10, 13, 13), (0, 10, 17, 47), (0, 10, 21, 15)] 4 := ⟨(mT 409 (by decide +kernel) rfl), (mT 407 (by decide +kernel) rfl), (mT 408 (by decide +kernel) rfl), (mT 28 (by decide +kernel) rfl), by decide, by decide, by decide +kernel⟩
theorem kh_L_118 : kcH RL 118 yL_rank cL_rank 5 (some .int) [(0, 10, 13, 21)] 4 := ⟨(mT 480 (by decide +kernel) rfl), (mT 478 (by decide +kernel) rfl), (mT 479 (by decide +kernel) rfl), (mT 28 (by decide +kernel) rfl), by decide, by decide, by decide +kernel⟩
theorem kh_L_121 : kcH RL 121 yL_same cL_same 6 (some .int) [(0, 12, 15, 21), (0, 12, 19, 13)] 5 := ⟨(mT 493 (by decide +kernel) rfl), (mT 491 (by decide +kernel) rfl), (mT 492 (by decide +kernel) rfl), (mT 28 (by decide +kernel) rfl), by decide, by decide, by decide +kernel⟩
theorem kh_L_125 : kcH RL 125 yL_prints cL_prints 7 (some .int) [(0, 21, 24, 21)] 6 := ⟨(mT 507 (by decide +kernel) rfl), (mT 505 (by decide +kernel) rfl), (mT 506 (by decide +kernel) rfl), (mT 28 (by decide +kernel) rfl), by decide, by decide, by decide +kernel⟩
theorem kh_L_128 : kcH RL 128 yL_covered cL_covered 4 (some .int) [(0, 8, 11, 21)] 3 := ⟨(mT 519 (by decide +kernel) rfl), (mT 517 (by decide +kernel) rfl), (mT 518 (by decide +kernel) rfl), (mT 28 (by decide +kernel) rfl), by decide, by decide, by decide +kernel⟩
theorem kh_L_131 : kcH RL 131 yL_packed cL_packed 5 (some .int) [(0, 10, 13, 21)] 4 := ⟨(mT 526 (by decide +kernel) rfl), (mT 524 (by decide +kernel) rfl), (mT 525 (by decide +kernel) rfl), (mT 28 (by decide +kernel) rfl), by decide, by decide, by decide +kernel⟩