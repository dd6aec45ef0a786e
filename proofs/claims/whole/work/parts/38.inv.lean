/-! ===== between two calls of the law ===== -/
def ceRel (cs : List cT) (CN CG CS K : Int → Int) : Prop := ∀ (k : Nat) (c : cT), cs[k]? = some c → CN (k : Int) = (c.2.2.1 : Int) ∧ CG (k : Int) = c.2.2.2.1 ∧ CN (k : Int) / CG (k : Int) = c.2.2.2.2.1 ∧ CS (k : Int) % c.2.2.2.2.1 = c.2.2.2.2.2.1 ∧ ∀ i, 0 ≤ i → i < CN (k : Int) → c.2.2.2.2.2.2 i = K (300 * (k : Int) + i)
def lInv (w h cnt most rch : Int) (M C : Int → Int) (cc : Int) (L V : Int → Int) (cs : List cT) (tl : Int) (Y T CN CG CS K : Int → Int) : Prop := mdOK w h cnt most rch tl ((cs.length : Nat) : Int) M Y C T CN CG CS K ∧ zeroY Y cnt ∧ cvOK cc L V ∧ cvRel cc L V T tl ∧ csOK cs ∧ (∀ c, -1 ≤ CN c ∧ CN c ≤ 300) ∧ ceRel cs CN CG CS K
section LI
variable {w h cnt most rch cc tl : Int} {M C L V Y T CN CG CS K : Int → Int} {cs : List cT}
theorem lInv_pg (hI : lInv w h cnt most rch M C cc L V cs tl Y T CN CG CS K) : pgOK w h (w * h) cnt most rch M C (PPf Y w (w * h)) := by
  obtain ⟨⟨a1, a2, a3, a4, a5, a6, a7, a8, -⟩, -⟩ := hI
  exact ⟨a1, a2, rfl, a3, a4, a5, a6, a8, fun j => a7 _⟩
theorem lInv_nx (hI : lInv w h cnt most rch M C cc L V cs tl Y T CN CG CS K) : 0 ≤ ((cs.length : Nat) : Int) ∧ ((cs.length : Nat) : Int) ≤ 6 := by
  obtain ⟨⟨a1, a2, a3, a4, a5, a6, a7, a8, a9, b1, b2, b3, b4, -⟩, -⟩ := hI
  exact b4
theorem zu_b {X : Int → Int} {i y A B : Int} (h1 : ∀ j, A ≤ X j ∧ X j ≤ B) (h2 : A ≤ y ∧ y ≤ B) : ∀ j, A ≤ zu X i y j ∧ zu X i y j ≤ B := fun j => by
  unfold zu; split
  · exact h2
  · exact h1 j
theorem inv_ink {a1 a2 a3 a4 : Int} (hI : lInv w h cnt most rch M C cc L V cs tl Y T CN CG CS K) (hc : cInk a1 a2 a3 a4 cnt = 0) : lInv w h (cnt + 1) most rch (zu (zu (zu (zu M (cnt * 4) a1) (cnt * 4 + 1) a2) (cnt * 4 + 2) a3) (cnt * 4 + 3) a4) C cc L V cs tl Y T CN CG CS K := by
  obtain ⟨⟨b1, b2, b3, b4, b5, b6, b7⟩, c2, c3⟩ := hI
  have hb : ((0 ≤ a1 ∧ a1 ≤ 255) ∧ (0 ≤ a2 ∧ a2 ≤ 255) ∧ (0 ≤ a3 ∧ a3 ≤ 255) ∧ (0 ≤ a4 ∧ a4 ≤ 255)) ∧ cnt ≠ 8 := by
    revert hc; unfold cInk; (repeat' split) <;> omega
  exact ⟨⟨b1, b2, by omega, b4, b5, zu_b (zu_b (zu_b (zu_b b6 hb.1.1) hb.1.2.1) hb.1.2.2.1) hb.1.2.2.2, b7⟩, fun q k h1 h2 => c2 q k (by omega) h2, c3⟩
theorem inv_col {k v : Int} (hI : lInv w h cnt most rch M C cc L V cs tl Y T CN CG CS K) (hc : cCol k v cnt = 0) : lInv w h cnt most rch M (zu C k v) cc L V cs tl Y T CN CG CS K := by
  obtain ⟨⟨b1, b2, b3, b4, b5, b6, b7, b8, b9⟩, c3⟩ := hI
  have hb : -1 ≤ v ∧ v ≤ 255 := by revert hc; unfold cCol; (repeat' split) <;> omega
  exact ⟨⟨b1, b2, b3, b4, b5, b6, b7, zu_b b8 hb, b9⟩, c3⟩
theorem inv_lim {v : Int} (hI : lInv w h cnt most rch M C cc L V cs tl Y T CN CG CS K) (hc : cLim v = 0) : lInv w h cnt v rch M C cc L V cs tl Y T CN CG CS K := by
  obtain ⟨⟨b1, b2, b3, b4, b5⟩, c3⟩ := hI
  have hb : 0 ≤ v ∧ v ≤ 2040 := by revert hc; unfold cLim; (repeat' split) <;> omega
  exact ⟨⟨b1, b2, b3, hb, b5⟩, c3⟩
theorem inv_wid {v : Int} (hI : lInv w h cnt most rch M C cc L V cs tl Y T CN CG CS K) (hc : cWid v = 0) : lInv w h cnt most v M C cc L V cs tl Y T CN CG CS K := by
  obtain ⟨⟨b1, b2, b3, b4, b5, b6⟩, c3⟩ := hI
  have hb : 0 ≤ v ∧ v ≤ 3 := by revert hc; unfold cWid; (repeat' split) <;> omega
  exact ⟨⟨b1, b2, b3, b4, hb, b6⟩, c3⟩
theorem gai_eq {v x : Int} (hI : lInv w h cnt most rch M C cc L V cs tl Y T CN CG CS K) : cGai v x (if cc < 12 ∨ L (ffV cc L v) = v then 0 else 1) = cGai v x (if T v = -1 ∧ tl = 12 then 1 else 0) := by
  obtain ⟨-, -, c3, c4, -⟩ := hI
  unfold cGai
  by_cases q : (0 ≤ v ∧ v ≤ 255) ∧ (0 ≤ x ∧ x ≤ 255)
  · rw [full_eq c3 c4 q.1]
  · rw [if_neg q, if_neg q]
theorem inv_gai {v x : Int} (hI : lInv w h cnt most rch M C cc L V cs tl Y T CN CG CS K) (hc : cGai v x (if cc < 12 ∨ L (ffV cc L v) = v then 0 else 1) = 0) : lInv w h cnt most rch M C (putC cc L v) (putF cc L v L v) (putF cc L v V x) cs (tl + (if T v = -1 then 1 else 0)) Y (zu T v x) CN CG CS K := by
  obtain ⟨⟨b1, b2, b3, b4, b5, b6, b7, b8, b9, d1, d2, d3, d4⟩, c2, c3, c4, c5⟩ := hI
  have hb : (0 ≤ v ∧ v ≤ 255) ∧ (0 ≤ x ∧ x ≤ 255) := by
    revert hc; unfold cGai; split
    · intro _; assumption
    · intro z; omega
  have hr : cc < 12 ∨ L (ffV cc L v) = v := by
    revert hc; unfold cGai; rw [if_pos hb]
    by_cases q : cc < 12 ∨ L (ffV cc L v) = v
    · intro _; exact q
    · rw [if_neg q]; intro z; exact absurd z (by decide)
  obtain ⟨p1, p2⟩ := put_rel c3 c4 hb.1 hb.2 hr
  have tb : 2 ≤ tl + (if T v = -1 then 1 else 0) ∧ tl + (if T v = -1 then 1 else 0) ≤ 12 := by
    have e := p2.1
    have e2 := p1.1
    rw [e]; exact e2
  refine ⟨⟨b1, b2, b3, b4, b5, b6, b7, b8, zu_b b9 (by omega), ?_, ?_, tb, d4⟩, c2, p1, p2, c5⟩
  · unfold zu; split <;> omega
  · unfold zu; split <;> omega
theorem inv_pai {ov : Int} {f : Int → Bool} (hI : lInv w h cnt most rch M C cc L V cs tl Y T CN CG CS K) : lInv w h cnt most rch M C cc L V cs tl (YA Y w h f (Fm C ov cnt most)) T CN CG CS K := by
  obtain ⟨⟨b1, b2, b3, b4, b5, b6, b7, b8, b9⟩, c2, c3⟩ := hI
  exact ⟨⟨b1, b2, b3, b4, b5, b6, YA_b b7 (Fm_b b8 b4.1), b8, b9⟩, zeroY_YA b3 c2, c3⟩
theorem pla_eq {way p : Int} (hI : lInv w h cnt most rch M C cc L V cs tl Y T CN CG CS K) (hp : 0 ≤ p ∧ p ≤ 255) : (if way < 2 then p else bentV cc L V p) = if way < 2 then p else tcV T p := by
  obtain ⟨⟨b1, b2, b3, b4, b5, b6, b7, b8, b9, d1, d2, -⟩, c2, c3, c4, -⟩ := hI
  rw [bent_eq c3 c4 d1 d2 hp]
theorem cAt_in {k : Int} (hk : 0 ≤ k ∧ k < ((cs.length : Nat) : Int)) : cs[k.toNat]? = some (cAt cs k) := by
  have h1 : k.toNat < cs.length := by omega
  unfold cAt
  rw [List.getElem?_eq_getElem h1]; rfl
theorem ran_eq {c9 i : Int} (hI : lInv w h cnt most rch M C cc L V cs tl Y T CN CG CS K) : cRan c9 i ((cs.length : Nat) : Int) ((cAt cs c9).2.2.1 : Int) = cRan c9 i ((cs.length : Nat) : Int) (CN c9) ∧ (cRan c9 i ((cs.length : Nat) : Int) ((cAt cs c9).2.2.1 : Int) = 0 → (if i = -1 then ((cAt cs c9).2.2.1 : Int) else (cAt cs c9).2.2.2.2.2.2 i) = if i = -1 then CN c9 else K (300 * c9 + i)) := by
  obtain ⟨-, -, -, -, -, -, c7⟩ := hI
  by_cases q : 0 ≤ c9 ∧ c9 < ((cs.length : Nat) : Int)
  · obtain ⟨e1, -, -, -, e5⟩ := c7 _ _ (cAt_in q)
    rw [toNat_c q.1] at e1 e5
    refine ⟨by rw [e1], fun hz => ?_⟩
    have hi : -1 ≤ i ∧ i < CN c9 := by
      rw [← e1] at hz
      revert hz; unfold cRan; split
      · intro _; omega
      · intro z; omega
    by_cases z : i = -1
    · rw [if_pos z, if_pos z, e1]
    · rw [if_neg z, if_neg z]; exact e5 i (by omega) hi.2
  · have e : ∀ n, cRan c9 i ((cs.length : Nat) : Int) n = 1 := fun n => if_neg (fun z => q z.1)
    exact ⟨by rw [e, e], fun hz => by rw [e] at hz; exact absurd hz (by decide)⟩
theorem nm_eq {c9 x y : Int} (hI : lInv w h cnt most rch M C cc L V cs tl Y T CN CG CS K) (q : 0 ≤ c9 ∧ c9 < ((cs.length : Nat) : Int)) : nmV (cAt cs c9).2.2.2.1 (cAt cs c9).2.2.2.2.1 (cAt cs c9).2.2.2.2.2.1 x y = nmV (CG c9) (CN c9 / CG c9) (CS c9) x y := by
  obtain ⟨-, -, -, -, -, -, c7⟩ := hI
  obtain ⟨e1, e2, e3, e4, e5⟩ := c7 _ _ (cAt_in q)
  rw [toNat_c q.1] at e1 e2 e3 e4
  rw [← e4, ← e3, ← e2, nmV_mod]
theorem sam_eq {c9 x y : Int} (hI : lInv w h cnt most rch M C cc L V cs tl Y T CN CG CS K) (hz : cSam c9 x y ((cs.length : Nat) : Int) = 0) : nmV (cAt cs c9).2.2.2.1 (cAt cs c9).2.2.2.2.1 (cAt cs c9).2.2.2.2.2.1 x y = nmV (CG c9) (CN c9 / CG c9) (CS c9) x y := by
  refine nm_eq hI ?_
  revert hz; unfold cSam; split
  · intro _; assumption
  · intro z; omega
theorem pri_eq {c9 k x y : Int} (hI : lInv w h cnt most rch M C cc L V cs tl Y T CN CG CS K) (hz : cPri c9 k x y ((cs.length : Nat) : Int) cnt w h = 0) :
    bI (decide ((cAt cs c9).2.2.2.2.2.2 (nmV (cAt cs c9).2.2.2.1 (cAt cs c9).2.2.2.2.1 (cAt cs c9).2.2.2.2.2.1 x y) < (bentV cc L V (PPf Y w (w * h) (k * (w * h) + (x + w * y))) * ((cAt cs c9).2.2.1 : Int) + 127) / 255)) = bI (decide (K (300 * c9 + nmV (CG c9) (CN c9 / CG c9) (CS c9) x y) < (tcV T (PPf Y w (w * h) (k * (w * h) + (x + w * y))) * CN c9 + 127) / 255)) := by
  have hq : 0 ≤ c9 ∧ c9 < ((cs.length : Nat) : Int) := by
    revert hz; unfold cPri; split
    · next c => intro _; exact c.1
    · intro z; omega
  have hnm := nm_eq (x := x) (y := y) hI hq
  obtain ⟨⟨b1, b2, b3, b4, b5, b6, b7, b8, b9, d1, d2, d3, d4, d5, -⟩, c2, c3, c4, c5, c6, c7⟩ := hI
  obtain ⟨e1, e2, e3, e4, e5⟩ := c7 _ _ (cAt_in hq)
  have hci := d5 c9 hq.1 hq.2
  have hrb := row_b hci
  have hnb := nm_b (dp := CG c9) (br := CN c9 / CG c9) (sl := CS c9) (x := x) (y := y) hci.1 hrb
  rw [hci.2.2.2] at hnb
  rw [toNat_c hq.1] at e1 e5
  rw [hnm, e5 _ hnb.1 hnb.2, bent_eq c3 c4 d1 d2 (v := PPf Y w (w * h) (k * (w * h) + (x + w * y))) (b7 _), ← e1]
theorem inv_cel {a b : Int} {ce ra : Nat} {S1 S2 : Int → Int} (hI : lInv w h cnt most rch M C cc L V cs tl Y T CN CG CS K) (hc : cCel a b ((cs.length : Nat) : Int) = 0) (h1 : isM 288 ((((a * a + b * b).toNat : Nat)) : Int) (nmV (cdR a b 11) ((a * a + b * b) / cdR a b 11) (fiR a b (cdR a b 11) 25 % ((a * a + b * b) / cdR a b 11))) (full 12) S1) (h2 : isM (a * a + b * b) (a * a + b * b) (nmV (cdR a b 11) ((a * a + b * b) / cdR a b 11) (fiR a b (cdR a b 11) 25)) (full 13) S2) :
    lInv w h cnt most rch M C cc L V (cs ++ [cNew ce ra a b S1]) tl Y T (zu CN ((cs.length : Nat) : Int) (a * a + b * b)) (zu CG ((cs.length : Nat) : Int) (cdR a b 11)) (zu CS ((cs.length : Nat) : Int) (fiR a b (cdR a b 11) 25)) (ZS K (300 * ((cs.length : Nat) : Int)) (a * a + b * b) (rkF S2 (a * a + b * b))) := by
  have hb : (0 ≤ a ∧ a ≤ 12) ∧ (-12 ≤ b ∧ b ≤ 12) ∧ ¬ (a = 0 ∧ b = 0) ∧ ((cs.length : Nat) : Int) ≠ 6 := by
    revert hc; unfold cCel; (repeat' split) <;> omega
  obtain ⟨-, hF⟩ := ceF_at hb.1 hb.2.1 hb.2.2.1
  have hs := sq_sum hb.1 hb.2.1 hb.2.2.1
  have hN : ((((a * a + b * b).toNat : Nat)) : Int) = a * a + b * b := by omega
  obtain ⟨⟨b1, b2, b3, b4, b5, b6, b7, b8, b9, d1, d2, d3, d4, d5, d6⟩, c2, c3, c4, c5, c6, c7⟩ := hI
  have hlen : (((cs ++ [cNew ce ra a b S1]).length : Nat) : Int) = ((cs.length : Nat) : Int) + 1 := by rw [List.length_append]; rfl
  generalize hd : cdR a b 11 = d at *
  generalize hsh : fiR a b d 25 = sh at *
  generalize hn : a * a + b * b = n at *
  obtain ⟨f1, f2, f3, f4, -⟩ := id hF
  generalize hbr : n / d = br at *
  rw [hn] at f3
  have hsl : 0 ≤ sh % br ∧ sh % br < br := ⟨Int.emod_nonneg _ (by omega), Int.emod_lt_of_pos _ (by omega)⟩
  have hnm : nmV d br (sh % br) = nmV d br sh := by funext x y; exact nmV_mod
  rw [hnm, hN] at h1
  have hS : ∀ i, 0 ≤ i → i < n → S1 i = S2 i := by
    have := sizes_eq (a := a) (b := b) (S1 := S1) (S2 := S2) hF (by rw [hn]; exact hs) (by rw [hn]; exact h1) (by rw [hn]; exact h2)
    rw [hn] at this; exact this
  have hcn : cNew ce ra a b S1 = (ce, ra, n.toNat, d, br, sh % br, ZS (fun _ => 0) 0 ((n.toNat : Nat) : Int) (rkF S1 ((n.toNat : Nat) : Int))) := by
    unfold cNew; rw [hn, hd, hbr, hsh]
  have hget : ∀ (k : Nat) (c : cT), (cs ++ [cNew ce ra a b S1])[k]? = some c → (k < cs.length ∧ cs[k]? = some c) ∨ (k = cs.length ∧ c = cNew ce ra a b S1) := by
    intro k c hk
    by_cases q : k < cs.length
    · rw [List.getElem?_append_left q] at hk; exact Or.inl ⟨q, hk⟩
    · rw [List.getElem?_append_right (by omega)] at hk
      by_cases e : k = cs.length
      · rw [e, Nat.sub_self] at hk; exact Or.inr ⟨e, (Option.some.inj hk).symm⟩
      · obtain ⟨m, hm⟩ : ∃ m, k - cs.length = m + 1 := ⟨k - cs.length - 1, by omega⟩
        rw [hm] at hk; cases hk
  have hKb : ∀ j, 0 ≤ ZS K (300 * ((cs.length : Nat) : Int)) n (rkF S2 n) j ∧ ZS K (300 * ((cs.length : Nat) : Int)) n (rkF S2 n) j ≤ 1000 := ZS_b d6 (fun j => by have := rkF_b S2 (n := n) (by omega) j; omega)
  have hOK : clOK n.toNat d br (sh % br) (ZS (fun _ => 0) 0 ((n.toNat : Nat) : Int) (rkF S1 ((n.toNat : Nat) : Int))) := by
    rw [hN]
    refine ⟨f1, f2, hsl, by rw [hN]; exact f3.symm, by omega, ZS_b (fun j => by omega) (fun j => by have := rkF_b S1 (n := n) (by omega) j; omega)⟩
  refine ⟨⟨b1, b2, b3, b4, b5, b6, b7, b8, b9, d1, d2, d3, by rw [hlen]; omega, fun c e1 e2 => ?_, hKb⟩, c2, c3, c4, fun k c hk => ?_, zu_b c6 (by omega), fun k c hk => ?_⟩
  · rw [hlen] at e2
    by_cases e : c = ((cs.length : Nat) : Int)
    · unfold clIn
      rw [e, zu_s, zu_s, zu_s, hbr]
      exact ⟨f1, by omega, f4, f3⟩
    · have := d5 c e1 (by omega)
      unfold clIn at this ⊢
      rw [zu_n e, zu_n e, zu_n e]; exact this
  · rcases hget k c hk with ⟨-, g⟩ | ⟨-, g⟩
    · exact c5 k c g
    · rw [g, hcn]; exact hOK
  · rcases hget k c hk with ⟨g0, g⟩ | ⟨g0, g⟩
    · obtain ⟨e1, e2, e3, e4, e5⟩ := c7 k c g
      have hne : (k : Int) ≠ ((cs.length : Nat) : Int) := by omega
      rw [zu_n hne, zu_n hne, zu_n hne]
      refine ⟨e1, e2, e3, e4, fun i i0 i1 => ?_⟩
      have hcb := c6 (k : Int)
      rw [e5 i i0 i1]
      have hci := d5 (k : Int) (by omega) (by omega)
      have := hci.2.1
      exact (if_neg (by omega)).symm
    · rw [g, hcn, g0, zu_s, zu_s, zu_s]
      refine ⟨hN.symm, rfl, hbr, rfl, fun i i0 i1 => ?_⟩
      show ZS (fun _ => 0) 0 ((n.toNat : Nat) : Int) (rkF S1 ((n.toNat : Nat) : Int)) i = _
      rw [hN, ZS_at _ _ _ ⟨i0, i1⟩]
      have e0 : ZS (fun _ => (0 : Int)) 0 n (rkF S1 n) i = rkF S1 n i := by
        have := ZS_at (fun _ => (0 : Int)) 0 (rkF S1 n) (i := i) (n := n) ⟨i0, i1⟩
        rw [Int.zero_add] at this; exact this
      rw [e0]
      exact rkF_congr hS i i0 i1
end LI
