section ZN
variable {p : Program} {l : Launch} {e : Env} {R : Room} {s : State} {m : MethodId} {args : Array Value} {below : List Frame} {meth : Method} {c : Code} {H : Heap} {locs : List Loc} {cells slots : Nat} {Q : State → Prop} {cc : ByteArray} {pc : Nat} {ls : Array Slot} {rest : List Value} {G : zG} {ws : va_W} {A : Nat → Prop} {H0 : Heap}
theorem z_newa (hx : p.tables.exec = Jvm.exec) (hb : c.code = cc) (hT : ∀ w ∈ TB, w.before args s = true) (hK : zK G s) (hP : zP G ws H) (hD : va_D A ws) (hS : va_S A H0 H locs) (hA : ∀ q, H0.size ≤ q → A q) {n : Int} {N : Nat} (hn : n = (N : Int) ∧ N ≤ 100000) (hcells : cells + 1 ≤ R.cells) (hslots : slots + N ≤ R.slots) (hd : decode cc pc = .ok (.newarray .int, 2))
    (k : ∀ (q : Nat) (H : Heap), zP G (ws ++ [ia G q N (fun _ => 0)]) H → va_D A (ws ++ [ia G q N (fun _ => 0)]) → va_S A H0 H locs → W p l e R s m args below meth c H locs (cells + 1) (slots + N) Q (F0 m (pc + 2) ls (.ref q :: rest))) : W p l e R s m args below meth c H locs cells slots Q (F0 m pc ls (.int (zI n) :: rest)) := by
  have hby : N * componentBytes .int ≤ 536870912 := by
    show N * 4 ≤ 536870912
    omega
  refine va_newa (atype := .int) (N' := N) (n := zI n) hx hb (hT _ (mT 84 (by decide +kernel) rfl)) (ty := .int) rfl hK hP hD hS hA (a0 := (N, .inl (zA fun _ => 0))) (fun cA => rfl) (by rw [← zI_0, zI_lt (by omega) (by omega)]; omega) (by rw [zI_cl (by omega)]; omega) hby hcells hslots hd (fun q cA H1 hK1 hP1 hD1 hS1 => ?_)
  have h1 : s.vm.findClass ("[" ++ FieldType.int.toString) = some cA := (hK1.2 3 (cA, .int) rfl).2
  have h2 : s.vm.findClass ("[" ++ FieldType.int.toString) = some G.2.1 := (hK.2 0 (G.2.1, .int) rfl).2
  have e : cA = G.2.1 := Option.some.inj (h1.symm.trans h2)
  subst e
  exact k q H1 hP1 hD1 hS1
end ZN
/-- a place more on the curve, or another value for one -/
def insF (L : Int → Int) (cc i : Int) : Int → Int := fun j => if i < j ∧ j ≤ cc then L (j - 1) else L j
theorem insF_0 (L : Int → Int) (cc : Int) : insF L cc cc = L := by funext j; unfold insF; rw [if_neg (by omega)]
theorem insF_s (L : Int → Int) {cc i : Int} (hi : i ≤ cc) : zu (insF L cc i) i (L (i - 1)) = insF L cc (i + -1) := by
  funext j; unfold zu insF
  by_cases e : j = i
  · rw [if_pos e, if_pos (by omega), e]
  · rw [if_neg e]
    by_cases q : i < j ∧ j ≤ cc
    · rw [if_pos q, if_pos (by omega)]
    · rw [if_neg q, if_neg (by omega)]
def putC (cc : Int) (L : Int → Int) (v : Int) : Int := if L (ffV cc L v) = v then cc else cc + 1
def putF (cc : Int) (L : Int → Int) (v : Int) (X : Int → Int) (x : Int) : Int → Int := if L (ffV cc L v) = v then zu X (ffV cc L v) x else zu (insF X cc (ffV cc L v)) (ffV cc L v) x

set_option maxHeartbeats 4000000 in
set_option maxRecDepth 100000 in
theorem c_X1_put (l : Launch) (G : zG) (cv ca cb : Nat) (cc : Int) (L V : Int → Int) (v x : Int) (hvv : cvOK cc L V) (h255 : 0 ≤ v ∧ v ≤ 255) (hroom : cc < 12 ∨ L (ffV cc L v) = v) : zWv l yX1_put cX1_put 5 { frames := 1, cells := 0, slots := 0, locals := 22 } G [.ref cv, .int (zI (v)), .int (zI (x))] (cvL G cv ca cb cc L V) (S := Unit) (fun u => True) (fun u => cvL G cv ca cb (putC cc L v) (putF cc L v L v) (putF cc L v V x)) := by
  intro sz
  refine Met.ofW (cc := cX1_put) (maxL := 5) (ret := none) (by decide) rfl ?_
  intro p e s m args below meth c s₁ B hml hv
  obtain ⟨rfl, hsz, hP, hK, hD0⟩ := hv
  have hx := B.exec
  have hb := B.bytes
  have hr := B.returns
  have hT : ∀ w ∈ TB, w.before _ s = true := fun w h => atoms_spec (ws := Cond.code yX1_put cX1_put 5 none :: TB) B.pre w (List.mem_cons_of_mem _ h)
  have hown : s.vm.findClass RX1 = some m.cls := findClass_of_methodNamed B.named
  have hlocks := B.notSynchronized
  subst hsz
  have hD := hD0.self (sz := s.heap.size)
  generalize hAe : va_A (cvL G cv ca cb cc L V) s.heap.size = A at hD ⊢
  have hA : ∀ q : Nat, s.heap.size ≤ q → A q := fun q h => by rw [← hAe]; exact Or.inr h
  have hS : va_S A s.heap s.heap [] := va_S.rf
  have hP : zP G (cvL G cv ca cb cc L V) s.heap := hP
  have hD : va_D A (cvL G cv ca cb cc L V) := hD
  have hl := lv_entry ([.ref cv, .int (zI (v)), .int (zI (x))]) (n := 5) (Nat.le_of_ble_eq_true rfl)
  rw [lg_entry_eq]
  generalize (lg_sl ([.ref cv, .int (zI (v)), .int (zI (x))]) ++ List.replicate (5 - (lg_sl ([.ref cv, .int (zI (v)), .int (zI (x))])).length) Slot.unset).toArray = ls at hl ⊢
  have hl : lv_has ls 5 [(0, .ref cv), (1, .int (zI (v))), (2, .int (zI (x)))] := hl
  obtain ⟨hcc, hL0, hLe, hLs, hLb, hVb⟩ := id hvv
  have hf := ffV_b hcc L v
  have hlf := hLb (ffV cc L v)
  refine lv_aload_n hx hb dX1_put_0 rfl (lv_at hl 0 rfl) ?_
  refine lv_iload_n hx hb dX1_put_1 rfl (lv_at hl 1 rfl) ?_
  refine z_callV (q0 := 0) (G := G) (As := [.int (zI (v))]) (rest := []) hx hb hml hown hT hK (c_X1_firstFrom l G cv ca cb cc L V (v) hvv (by omega)) kc_X1_22 ⟨Nat.le_of_ble_eq_true rfl, Nat.le_of_ble_eq_true rfl⟩ ⟨rfl, rfl⟩ ⟨Nat.le_of_ble_eq_true rfl, Nat.le_of_ble_eq_true rfl⟩ hP rfl rfl rfl rfl hl.1 rfl (Nat.le_of_ble_eq_true rfl) dX1_put_2 ?_
  refine lv_istore_n (lv' := [(3, .int (zI ((ffV cc L v)))), (0, .ref cv), (1, .int (zI (v))), (2, .int (zI (x)))]) hx hb dX1_put_5 rfl hl (by decide) rfl (fun ls hl => ?_)
  refine lv_aload_n hx hb dX1_put_6 rfl (lv_at hl 1 rfl) ?_
  refine gf_X1_11 hx hb hT hown hK hP 0 rfl rfl dX1_put_7 ?_
  refine lv_iload_n hx hb dX1_put_10 rfl (lv_at hl 0 rfl) ?_
  refine z_iald hx hb hK hP 1 rfl (⟨by omega, by omega, by omega⟩) dX1_put_11 ?_
  refine lv_iload_n hx hb dX1_put_12 rfl (lv_at hl 2 rfl) ?_
  refine z_icmp_eq (tgt := 76) hx hb dX1_put_13 (by decide) (by omega) (by omega) (fun h13 => ?_) (fun h13 => ?_)
  · skip
    refine lv_aload_n hx hb dX1_put_76 rfl (lv_at hl 1 rfl) ?_
    refine gf_X1_11 hx hb hT hown hK hP 0 rfl rfl dX1_put_77 ?_
    refine lv_iload_n hx hb dX1_put_80 rfl (lv_at hl 0 rfl) ?_
    refine lv_iload_n hx hb dX1_put_81 rfl (lv_at hl 2 rfl) ?_
    refine z_iast (ws' := cvL G cv ca cb cc (zu L (ffV cc L v) v) V) hx hb hK hP hD hS 1 rfl (⟨by omega, by omega, by omega⟩) dX1_put_82 rfl (fun H locs hP hD hS => ?_)
    refine lv_aload_n hx hb dX1_put_83 rfl (lv_at hl 1 rfl) ?_
    refine gf_X1_15 hx hb hT hown hK hP 0 rfl rfl dX1_put_84 ?_
    refine lv_iload_n hx hb dX1_put_87 rfl (lv_at hl 0 rfl) ?_
    refine lv_iload_n hx hb dX1_put_88 rfl (lv_at hl 3 rfl) ?_
    refine z_iast (ws' := cvL G cv ca cb cc (zu L (ffV cc L v) v) (zu V (ffV cc L v) x)) hx hb hK hP hD hS 2 rfl (⟨by omega, by omega, by omega⟩) dX1_put_89 rfl (fun H locs hP hD hS => ?_)
    have hQ : cvL G cv ca cb (putC cc L v) (putF cc L v L v) (putF cc L v V x) = cvL G cv ca cb cc (zu L (ffV cc L v) v) (zu V (ffV cc L v) x) := by unfold putC putF; split <;> first | rfl | (exfalso; omega)
    exact z_wrv () hx hb hr hlocks hK (by rw [hQ]; exact hP) (by rw [hQ]; exact hD) hS (trivial) dX1_put_90
  · skip
    have hc12 : cc < 12 := by omega
    refine lv_aload_n hx hb dX1_put_16 rfl (lv_at hl 1 rfl) ?_
    refine gf_X1_18 hx hb hT hown hK hP 0 rfl rfl dX1_put_17 ?_
    refine lv_istore (lv' := [(4, .int (zI (cc))), (3, .int (zI ((ffV cc L v)))), (0, .ref cv), (1, .int (zI (v))), (2, .int (zI (x)))]) hx hb dX1_put_20 hl (by decide) rfl (fun ls hl => ?_)
    have hP : zP G (cvL G cv ca cb cc (insF L cc cc) (insF V cc cc)) s.heap := by rw [insF_0, insF_0]; exact hP
    have hD : va_D A (cvL G cv ca cb cc (insF L cc cc) (insF V cc cc)) := by rw [insF_0, insF_0]; exact hD
    refine z_loopH (σ := Int × Array Slot) (fun zq => F0 m 22 (zq.2) []) (fun zq => ((ffV cc L v) ≤ zq.1 ∧ zq.1 ≤ cc) ∧ lv_has (zq.2) 5 [(0, .ref cv), (1, .int (zI (v))), (2, .int (zI (x))), (3, .int (zI ((ffV cc L v)))), (4, .int (zI (zq.1)))]) (fun zq => cvL G cv ca cb cc (insF L cc zq.1) (insF V cc zq.1)) (fun zq => (zq.1 - (ffV cc L v)).toNat) ?_ (cc, ls) ⟨by dsimp only; omega, lv_sub hl [2, 3, 4, 1, 0] rfl⟩ hP hD hS
    intro zq H locs hq hP hD hS ih
    obtain ⟨i, ls⟩ := zq
    obtain ⟨hI, hl⟩ := hq
    try dsimp only at hI hl ih hP hD ⊢
    have hP : zP G (cvL G cv ca cb cc (insF L cc i) (insF V cc i)) H := hP
    have hD : va_D A (cvL G cv ca cb cc (insF L cc i) (insF V cc i)) := hD
    have ih22 := ih
    refine lv_iload hx hb dX1_put_22 (lv_at hl 4 rfl) ?_
    refine lv_iload_n hx hb dX1_put_24 rfl (lv_at hl 3 rfl) ?_
    refine z_icmp_le (tgt := 66) hx hb dX1_put_25 (by decide) (by omega) (by omega) (fun h25 => ?_) (fun h25 => ?_)
    · skip
      have hi9 : i = (ffV cc L v) := by omega
      rw [hi9] at hP hD
      refine lv_aload_n hx hb dX1_put_66 rfl (lv_at hl 0 rfl) ?_
      refine lv_dup hx hb dX1_put_67 rfl ?_
      refine gf_X1_18 hx hb hT hown hK hP 0 rfl rfl dX1_put_68 ?_
      refine z_iconst hx hb dX1_put_71 ?_
      refine z_iadd hx hb dX1_put_72 ?_
      refine pf_X1_18 (ws' := cvL G cv ca cb (cc + 1) (insF L cc (ffV cc L v)) (insF V cc (ffV cc L v))) hx hb hT hown hK hP hD hS 0 rfl (Nat.le_of_ble_eq_true rfl) rfl rfl rfl dX1_put_73 (fun H locs hP hD hS => ?_)
      refine lv_aload_n hx hb dX1_put_76 rfl (lv_at hl 0 rfl) ?_
      refine gf_X1_11 hx hb hT hown hK hP 0 rfl rfl dX1_put_77 ?_
      refine lv_iload_n hx hb dX1_put_80 rfl (lv_at hl 3 rfl) ?_
      refine lv_iload_n hx hb dX1_put_81 rfl (lv_at hl 1 rfl) ?_
      refine z_iast (ws' := cvL G cv ca cb (cc + 1) (zu (insF L cc (ffV cc L v)) (ffV cc L v) v) (insF V cc (ffV cc L v))) hx hb hK hP hD hS 1 rfl (⟨by omega, by omega, by omega⟩) dX1_put_82 rfl (fun H locs hP hD hS => ?_)
      refine lv_aload_n hx hb dX1_put_83 rfl (lv_at hl 0 rfl) ?_
      refine gf_X1_15 hx hb hT hown hK hP 0 rfl rfl dX1_put_84 ?_
      refine lv_iload_n hx hb dX1_put_87 rfl (lv_at hl 3 rfl) ?_
      refine lv_iload_n hx hb dX1_put_88 rfl (lv_at hl 2 rfl) ?_
      refine z_iast (ws' := cvL G cv ca cb (cc + 1) (zu (insF L cc (ffV cc L v)) (ffV cc L v) v) (zu (insF V cc (ffV cc L v)) (ffV cc L v) x)) hx hb hK hP hD hS 2 rfl (⟨by omega, by omega, by omega⟩) dX1_put_89 rfl (fun H locs hP hD hS => ?_)
      have hQ : cvL G cv ca cb (putC cc L v) (putF cc L v L v) (putF cc L v V x) = cvL G cv ca cb (cc + 1) (zu (insF L cc (ffV cc L v)) (ffV cc L v) v) (zu (insF V cc (ffV cc L v)) (ffV cc L v) x) := by unfold putC putF; split <;> first | rfl | (exfalso; omega)
      exact z_wrv () hx hb hr hlocks hK (by rw [hQ]; exact hP) (by rw [hQ]; exact hD) hS (trivial) dX1_put_90
    · skip
      refine lv_aload_n hx hb dX1_put_28 rfl (lv_at hl 0 rfl) ?_
      refine gf_X1_11 hx hb hT hown hK hP 0 rfl rfl dX1_put_29 ?_
      refine lv_iload hx hb dX1_put_32 (lv_at hl 4 rfl) ?_
      refine lv_aload_n hx hb dX1_put_34 rfl (lv_at hl 0 rfl) ?_
      refine gf_X1_11 hx hb hT hown hK hP 0 rfl rfl dX1_put_35 ?_
      refine lv_iload hx hb dX1_put_38 (lv_at hl 4 rfl) ?_
      refine z_iconst hx hb dX1_put_40 ?_
      refine z_isub hx hb dX1_put_41 ?_
      refine z_iald hx hb hK hP 1 rfl (⟨by omega, by omega, by omega⟩) dX1_put_42 ?_
      refine z_iast (ws' := cvL G cv ca cb cc (zu (insF L cc i) i ((insF L cc i) (i - 1))) (insF V cc i)) hx hb hK hP hD hS 1 rfl (⟨by omega, by omega, by omega⟩) dX1_put_43 rfl (fun H locs hP hD hS => ?_)
      rw [show (zu (insF L cc i) i ((insF L cc i) (i - 1))) = (insF L cc (i + -1)) from by rw [show insF L cc i (i - 1) = L (i - 1) from if_neg (by omega), insF_s L (by omega)]] at hP hD
      refine lv_aload_n hx hb dX1_put_44 rfl (lv_at hl 0 rfl) ?_
      refine gf_X1_15 hx hb hT hown hK hP 0 rfl rfl dX1_put_45 ?_
      refine lv_iload hx hb dX1_put_48 (lv_at hl 4 rfl) ?_
      refine lv_aload_n hx hb dX1_put_50 rfl (lv_at hl 0 rfl) ?_
      refine gf_X1_15 hx hb hT hown hK hP 0 rfl rfl dX1_put_51 ?_
      refine lv_iload hx hb dX1_put_54 (lv_at hl 4 rfl) ?_
      refine z_iconst hx hb dX1_put_56 ?_
      refine z_isub hx hb dX1_put_57 ?_
      refine z_iald hx hb hK hP 2 rfl (⟨by omega, by omega, by omega⟩) dX1_put_58 ?_
      refine z_iast (ws' := cvL G cv ca cb cc (insF L cc (i + -1)) (zu (insF V cc i) i ((insF V cc i) (i - 1)))) hx hb hK hP hD hS 2 rfl (⟨by omega, by omega, by omega⟩) dX1_put_59 rfl (fun H locs hP hD hS => ?_)
      rw [show (zu (insF V cc i) i ((insF V cc i) (i - 1))) = (insF V cc (i + -1)) from by rw [show insF V cc i (i - 1) = V (i - 1) from if_neg (by omega), insF_s V (by omega)]] at hP hD
      refine lv_iinc (v := zI (i + (-1))) (lv' := [(4, .int (zI (i + (-1)))), (0, .ref cv), (1, .int (zI (v))), (2, .int (zI (x))), (3, .int (zI ((ffV cc L v))))]) hx hb dX1_put_60 hl (k := 4) rfl (zI_add _ _) (by decide) rfl (fun ls hl => ?_)
      refine z_goto (tgt := 22) hx hb dX1_put_63 (by decide) ?_
      exact ih22 (i + (-1), ls) _ _ ⟨by dsimp only; omega, lv_sub hl [1, 2, 3, 4, 0] rfl⟩ (by omega) hP hD hS
