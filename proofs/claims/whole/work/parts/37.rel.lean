/-! ===== painting: the class's way and the reference's ===== -/
theorem zsum_ext0 {f : Int → Int} {a : Nat} : ∀ b : Nat, a ≤ b → (∀ k : Int, (a : Int) ≤ k → k < b → f k = 0) → zsum f b = zsum f a := by
  intro b
  induction b with
  | zero => intro h _; have e : a = 0 := by omega
            rw [e]
  | succ n ih =>
    intro h h0
    by_cases q : a = n + 1
    · rw [q]
    · show zsum f n + f (n : Int) = zsum f a
      rw [ih (by omega) (fun k h1 h2 => h0 k h1 (by omega)), h0 (n : Int) (by omega) (by omega), Int.add_zero]
theorem mvF_hi {b : Int → Int} {ex k : Int} (hk : 4 ≤ k) : mvF b ex k = b k := by
  unfold mvF mvK
  rw [zu_n (by omega)]
  exact if_neg (by omega)
theorem shrF_eq {m : Int → Int} {cnt most : Int} (hc : 4 ≤ cnt ∧ cnt ≤ 8) (h0 : ∀ k, cnt ≤ k → k < 8 → m k = 0) : ∀ k, 0 ≤ k → k < 8 → shrF m cnt most k = shrF m 8 most k := by
  intro k h1 h2
  have e : zsum m (8 : Int).toNat = zsum m cnt.toNat := zsum_ext0 (a := cnt.toNat) 8 (by omega) (fun k a b => h0 k (by omega) (by omega))
  unfold shrF
  rw [e]
  split
  · rfl
  · by_cases q : k = 3
    · rw [q, zu_s, zu_s]
    · rw [zu_n q, zu_n q]
      unfold shK
      by_cases c : k < cnt
      · rw [if_pos ⟨h1, c, q⟩, if_pos ⟨h1, h2, q⟩]
      · rw [if_neg (fun z => c z.2.1), if_pos ⟨h1, h2, q⟩, h0 k (by omega) h2, Int.zero_mul, Int.zero_ediv]
theorem shrF_0 {m : Int → Int} {most : Int} {k : Int} (hk : 4 ≤ k) (h0 : m k = 0) : shrF m 8 most k = 0 := by
  unfold shrF
  split
  · exact h0
  · rw [zu_n (by omega)]
    unfold shK
    split
    · rw [h0, Int.zero_mul, Int.zero_ediv]
    · exact h0
theorem pt_eq {C b : Int → Int} {ov cnt most : Int} (hc : 4 ≤ cnt ∧ cnt ≤ 8) (h0 : ∀ k, cnt ≤ k → k < 8 → b k = 0) : (∀ k, 0 ≤ k → k < 8 → ptF C ov cnt most b k = Fm C ov cnt most b k) ∧ ∀ k, cnt ≤ k → k < 8 → Fm C ov cnt most b k = 0 := by
  have p0 : ∀ k, cnt ≤ k → k < 8 → pnF C ov b cnt k = 0 := fun k a c => by
    unfold pnF; rw [if_neg (by omega)]; exact h0 k a c
  have e : zsum (pnF C ov b cnt) 8 = zsum (pnF C ov b cnt) cnt.toNat := zsum_ext0 (a := cnt.toNat) 8 (by omega) (fun k a c => p0 k (by omega) (by omega))
  constructor
  · intro k h1 h2
    unfold ptF Fm bdF
    rw [e]
    split
    · rfl
    · exact shrF_eq hc (fun k a c => by rw [mvF_hi (by omega)]; exact p0 k a c) k h1 h2
  · intro k a c
    unfold Fm bdF
    split
    · exact p0 k a c
    · exact shrF_0 (by omega) (by rw [mvF_hi (by omega)]; exact p0 k a c)
def zeroY (Y : Int → Int) (cnt : Int) : Prop := ∀ q k, cnt ≤ k → k < 8 → Y (8 * q + k) = 0
theorem zeroY_YA {Y C : Int → Int} {w h cnt most ov : Int} {f : Int → Bool} (hc : 4 ≤ cnt ∧ cnt ≤ 8) (hz : zeroY Y cnt) : zeroY (YA Y w h f (Fm C ov cnt most)) cnt := by
  intro q k h1 h2
  have e := j8 (q := q) (k := k) (by omega)
  unfold YA
  rw [e.1, e.2]
  split
  · exact (pt_eq hc (fun k a c => hz q k a c)).2 k h1 h2
  · exact hz q k h1 h2
theorem PA_YA {Y C : Int → Int} {w h pts cnt most ov : Int} {f : Int → Bool} (hw : 1 ≤ w ∧ w ≤ 16) (hh : 1 ≤ h) (hpts : pts = w * h) (hc : 4 ≤ cnt ∧ cnt ≤ 8) (hz : zeroY Y cnt) : ∀ j, 0 ≤ j → j < 8 * pts → PA (PPf Y w pts) pts f (ptF C ov cnt most) j = PPf (YA Y w h f (Fm C ov cnt most)) w pts j := by
  intro j h1 h2
  have hp0 : 0 < pts := by rw [hpts]; exact Int.mul_pos (by omega) (by omega)
  have m1 := Int.emod_nonneg j (show pts ≠ 0 by omega)
  have m2 := Int.emod_lt_of_pos j hp0
  have d1 : 0 ≤ j / pts := Int.ediv_nonneg h1 (by omega)
  have d2 : j / pts < 8 := Int.ediv_lt_of_lt_mul hp0 (by omega)
  have ej : j = j / pts * pts + j % pts := by have := Int.mul_ediv_add_emod j pts; rw [Int.mul_comm] at this; omega
  generalize hq : j % pts = q at *
  generalize hk : j / pts = k at *
  obtain ⟨x1, y1⟩ := q_xy (w := w) (h := h) (q := q) (by omega) (by omega)
  have e1 : PPf (YA Y w h f (Fm C ov cnt most)) w pts j = YA Y w h f (Fm C ov cnt most) (8 * (16 * (q / w) + q % w) + k) := by rw [ej]; exact PP_q _ ⟨m1, m2⟩
  have e2 : PPf Y w pts j = Y (8 * (16 * (q / w) + q % w) + k) := by rw [ej]; exact PP_q _ ⟨m1, m2⟩
  have e3 := j8 (q := 16 * (q / w) + q % w) (k := k) (by omega)
  have e4 := q16 (u := q % w) (v := q / w) (by omega)
  have e5 : q % w + w * (q / w) = q := by have := Int.mul_ediv_add_emod q w; omega
  rw [e1]
  unfold PA YA
  rw [e3.1, e3.2, e4.1, e4.2, e5, hq, hk]
  cases c : f q with
  | false => rw [if_neg (fun z => nomatch z.2.2), if_neg (fun z => nomatch z.2.2.2)]; exact e2
  | true =>
    rw [if_pos ⟨h1, h2, rfl⟩, if_pos ⟨by omega, by omega, by omega, rfl⟩]
    have e6 : ∀ i, 0 ≤ i → i < 8 → colP (PPf Y w pts) pts q i = colY Y (16 * (q / w) + q % w) i := fun i _ _ => PP_q _ ⟨m1, m2⟩
    rw [ptF_ext C hc ov most _ _ e6 k d1 d2]
    exact (pt_eq hc (fun i a c => hz _ i a c)).1 k d1 d2
/-! ===== curves ===== -/
theorem ff_spec {cc : Int} {L V : Int → Int} (hvv : cvOK cc L V) {v : Int} (hv : 0 ≤ v ∧ v ≤ 255) : (0 ≤ ffV cc L v ∧ ffV cc L v ≤ cc - 1) ∧ (∀ j, 0 ≤ j → j < ffV cc L v → L j < v) ∧ v ≤ L (ffV cc L v) := by
  obtain ⟨hcc, hL0, hLe, hLs, hLb, hVb⟩ := id hvv
  have key : ∀ (n : Nat) (a : Int), 0 ≤ a → a ≤ cc - 1 → (∀ j, 0 ≤ j → j < a → L j < v) → a + n = 12 → (∀ j, 0 ≤ j → j < ffR cc L v n a → L j < v) ∧ (ffR cc L v n a = cc - 1 ∨ v ≤ L (ffR cc L v n a)) := by
    intro n
    induction n with
    | zero => intro a h1 h2 h3 h4; exact ⟨h3, by omega⟩
    | succ n ih =>
      intro a h1 h2 h3 h4
      show (∀ j, 0 ≤ j → j < (if a < cc - 1 ∧ L a < v then ffR cc L v n (a + 1) else a) → L j < v) ∧ ((if a < cc - 1 ∧ L a < v then ffR cc L v n (a + 1) else a) = cc - 1 ∨ v ≤ L (if a < cc - 1 ∧ L a < v then ffR cc L v n (a + 1) else a))
      by_cases q : a < cc - 1 ∧ L a < v
      · rw [if_pos q]
        refine ih (a + 1) (by omega) (by omega) (fun j j1 j2 => ?_) (by omega)
        by_cases e : j = a
        · rw [e]; exact q.2
        · exact h3 j j1 (by omega)
      · rw [if_neg q]
        refine ⟨h3, ?_⟩
        by_cases e : a = cc - 1
        · exact Or.inl e
        · right; omega
  obtain ⟨k1, k2⟩ := key 12 0 (by omega) (by omega) (fun j j1 j2 => by omega) (by omega)
  refine ⟨ffV_b hcc L v, k1, ?_⟩
  rcases k2 with h | h
  · show v ≤ L (ffR cc L v 12 0); rw [h, hLe]; omega
  · exact h
def cvRel (cc : Int) (L V T : Int → Int) (tl : Int) : Prop := tl = cc ∧ (∀ i, 0 ≤ i → i < cc → T (L i) = V i) ∧ ∀ v, 0 ≤ v → v ≤ 255 → T v ≠ -1 → ∃ i, 0 ≤ i ∧ i < cc ∧ L i = v
theorem Linj {cc : Int} {L V : Int → Int} (hvv : cvOK cc L V) {i j : Int} (hi : 0 ≤ i ∧ i < cc) (hj : 0 ≤ j ∧ j < cc) : (L i < L j ↔ i < j) ∧ (L i = L j ↔ i = j) := by
  obtain ⟨hcc, hL0, hLe, hLs, hLb, hVb⟩ := hvv
  rcases Int.lt_trichotomy i j with h | h | h
  · have := hLs i j hi.1 h hj.2; exact ⟨by omega, by omega⟩
  · rw [h]; exact ⟨by omega, by omega⟩
  · have := hLs j i hj.1 h hi.2; exact ⟨by omega, by omega⟩
theorem told_iff {cc : Int} {L V T : Int → Int} {tl : Int} (hvv : cvOK cc L V) (hr : cvRel cc L V T tl) {v : Int} (hv : 0 ≤ v ∧ v ≤ 255) : L (ffV cc L v) = v ↔ T v ≠ -1 := by
  obtain ⟨f1, f2, f3⟩ := ff_spec hvv hv
  obtain ⟨r1, r2, r3⟩ := hr
  have hVb := hvv.2.2.2.2.2
  constructor
  · intro h q
    have h1 := r2 (ffV cc L v) (by omega) (by omega)
    rw [h] at h1
    have := hVb (ffV cc L v)
    omega
  · intro h
    obtain ⟨i, i1, i2, i3⟩ := r3 v hv.1 hv.2 h
    have h1 := Linj hvv (i := ffV cc L v) (j := i) (by omega) (by omega)
    by_cases q : i < ffV cc L v
    · have := f2 i i1 q; omega
    · by_cases q2 : ffV cc L v = i
      · rw [q2]; exact i3
      · have := h1.1.mpr (by omega); omega
theorem bent_eq {cc : Int} {L V T : Int → Int} {tl : Int} (hvv : cvOK cc L V) (hr : cvRel cc L V T tl) (h0 : T 0 ≠ -1) (h5 : T 255 ≠ -1) {v : Int} (hv : 0 ≤ v ∧ v ≤ 255) : bentV cc L V v = tcV T v := by
  obtain ⟨f1, f2, f3⟩ := ff_spec hvv hv
  have ht := told_iff hvv hr hv
  obtain ⟨r1, r2, r3⟩ := id hr
  obtain ⟨hcc, hL0, hLe, hLs, hLb, hVb⟩ := id hvv
  obtain ⟨d1, d2, d3, d4⟩ := dnR_p h0 v.toNat
  obtain ⟨u1, u2, u3, u4⟩ := upR_p h5 (255 - v).toNat v (by omega)
  have hvn : ((v.toNat : Nat) : Int) = v := by omega
  rw [hvn] at d3 d4
  unfold bentV tcV
  generalize hf : ffV cc L v = f at *
  by_cases q : L f = v
  · have hT := ht.mp q
    have ed : dnR T v.toNat = v := by
      by_cases z : dnR T v.toNat = v
      · exact z
      · exact absurd (d4 v (by omega) (by omega)) hT
    rw [ed, if_pos rfl]
    have hTv : T v = V f := by rw [← q]; exact r2 f (by omega) (by omega)
    rw [hTv]
    by_cases z : 1 ≤ f
    · rw [Int.max_eq_right z]
      have hs := hLs (f - 1) f (by omega) (by omega) (by omega)
      rw [if_neg (by omega), q, Int.mul_tdiv_cancel _ (by omega)]
      omega
    · have e0 : f = 0 := by omega
      have hv0 : v = 0 := by rw [e0] at q; omega
      have hs := hLs 0 1 (by omega) (by omega) (by omega)
      rw [e0]
      show (if L 1 - L 0 ≤ 0 then V 1 else V 0 + ((V 1 - V 0) * (v - L 0)).tdiv (L 1 - L 0)) = V 0
      rw [if_neg (by omega), hv0, hL0, Int.sub_zero, Int.mul_zero, Int.zero_tdiv, Int.add_zero]
  · have hT : T v = -1 := by
      by_cases z : T v = -1
      · exact z
      · exact absurd (ht.mpr z) q
    have hf1 : 1 ≤ f := by
      apply Int.not_lt.mp; intro z
      have e0 : f = 0 := by omega
      rw [e0] at f3 q; omega
    have g1 := f2 (f - 1) (by omega) (by omega)
    have tb := fun i (a : 0 ≤ i) (b : i < cc) => (show T (L i) ≠ -1 by rw [r2 i a b]; have := hVb i; omega)
    have ed : dnR T v.toNat = L (f - 1) := by
      have c1 : ¬ dnR T v.toNat < L (f - 1) := fun z => tb (f - 1) (by omega) (by omega) (d4 _ z (by omega))
      obtain ⟨i, i1, i2, i3⟩ := r3 _ d2 (by omega) d1
      have h1 := Linj hvv (i := i) (j := f) (by omega) (by omega)
      have h2 := Linj hvv (i := f - 1) (j := i) (by omega) (by omega)
      have c2 : i < f := h1.1.mp (by omega)
      by_cases c3 : f - 1 = i
      · rw [c3]; exact i3.symm
      · have h3 := Linj hvv (i := i) (j := f - 1) (by omega) (by omega)
        have := h3.1.mpr (by omega); omega
    have eu : upR T (255 - v).toNat v = L f := by
      have c1 : ¬ L f < upR T (255 - v).toNat v := fun z => tb f (by omega) (by omega) (u4 _ (by omega) z)
      obtain ⟨i, i1, i2, i3⟩ := r3 _ (by omega) u3 u1
      have h1 := Linj hvv (i := f - 1) (j := i) (by omega) (by omega)
      have c2 : f - 1 < i := h1.1.mp (by omega)
      by_cases c3 : f = i
      · rw [c3]; exact i3.symm
      · have h3 := Linj hvv (i := f) (j := i) (by omega) (by omega)
        have := h3.1.mpr (by omega); omega
    rw [ed, eu, Int.max_eq_right hf1, if_neg (by have := hLs (f - 1) f (by omega) (by omega) (by omega); omega), if_neg (by omega), r2 (f - 1) (by omega) (by omega), r2 f (by omega) (by omega)]
theorem full_eq {cc : Int} {L V T : Int → Int} {tl : Int} (hvv : cvOK cc L V) (hr : cvRel cc L V T tl) {v : Int} (hv : 0 ≤ v ∧ v ≤ 255) : (if cc < 12 ∨ L (ffV cc L v) = v then (0 : Int) else 1) = if T v = -1 ∧ tl = 12 then 1 else 0 := by
  have ht := told_iff hvv hr hv
  have hcc := hvv.1
  have h1 := hr.1
  by_cases c : T v = -1 ∧ tl = 12
  · rw [if_pos c, if_neg]
    intro z
    rcases z with z | z
    · omega
    · exact ht.mp z c.1
  · rw [if_neg c, if_pos]
    by_cases z : T v = -1
    · left
      have : ¬ tl = 12 := fun q => c ⟨z, q⟩
      omega
    · right; exact ht.mpr z
theorem put_rel {cc : Int} {L V T : Int → Int} {tl v x : Int} (hvv : cvOK cc L V) (hr : cvRel cc L V T tl) (hv : 0 ≤ v ∧ v ≤ 255) (hx : 0 ≤ x ∧ x ≤ 255) (hroom : cc < 12 ∨ L (ffV cc L v) = v) :
    cvOK (putC cc L v) (putF cc L v L v) (putF cc L v V x) ∧ cvRel (putC cc L v) (putF cc L v L v) (putF cc L v V x) (zu T v x) (tl + (if T v = -1 then 1 else 0)) := by
  obtain ⟨f1, f2, f3⟩ := ff_spec hvv hv
  have ht := told_iff hvv hr hv
  obtain ⟨r1, r2, r3⟩ := id hr
  obtain ⟨hcc, hL0, hLe, hLs, hLb, hVb⟩ := id hvv
  unfold putC putF
  generalize hf : ffV cc L v = f at *
  have zb : ∀ (X : Int → Int) (i y : Int), (∀ j, 0 ≤ X j ∧ X j ≤ 255) → 0 ≤ y ∧ y ≤ 255 → ∀ j, 0 ≤ zu X i y j ∧ zu X i y j ≤ 255 := fun X i y h1 h2 j => by
    unfold zu; split
    · exact h2
    · exact h1 j
  by_cases q : L f = v
  · rw [if_pos q, if_pos q, if_pos q]
    have eL : zu L f v = L := by
      funext j
      unfold zu; split
      · next e => rw [e, q]
      · rfl
    have hT := ht.mp q
    rw [eL, if_neg hT, Int.add_zero]
    refine ⟨⟨hcc, hL0, hLe, hLs, hLb, zb V f x hVb hx⟩, r1, fun i i1 i2 => ?_, fun u u1 u2 u3 => ?_⟩
    · have h1 := Linj hvv (i := i) (j := f) (by omega) (by omega)
      by_cases e : i = f
      · rw [e, q, zu_s, zu_s]
      · rw [zu_n (fun z => e (h1.2.mp (by omega))), zu_n e]; exact r2 i i1 i2
    · by_cases e : u = v
      · exact ⟨f, by omega, by omega, by omega⟩
      · rw [zu_n e] at u3; exact r3 u u1 u2 u3
  · rw [if_neg q, if_neg q, if_neg q]
    have hT : T v = -1 := by
      by_cases z : T v = -1
      · exact z
      · exact absurd (ht.mpr z) q
    have hc12 : cc < 12 := by
      rcases hroom with z | z
      · exact z
      · exact absurd z q
    have hf1 : 1 ≤ f := by
      apply Int.not_lt.mp; intro z
      have e0 : f = 0 := by omega
      rw [e0] at f3 q; omega
    have g1 := f2 (f - 1) (by omega) (by omega)
    have g2 : v < L f := by omega
    have ib : ∀ (X : Int → Int), (∀ j, 0 ≤ X j ∧ X j ≤ 255) → ∀ j, 0 ≤ insF X cc f j ∧ insF X cc f j ≤ 255 := fun X h1 j => by
      unfold insF; split
      · exact h1 _
      · exact h1 _
    have at1 : ∀ (X : Int → Int) (y i : Int), i < f → zu (insF X cc f) f y i = X i := fun X y i h => by rw [zu_n (by omega)]; exact if_neg (by omega)
    have at2 : ∀ (X : Int → Int) (y i : Int), f < i → i ≤ cc → zu (insF X cc f) f y i = X (i - 1) := fun X y i h h2 => by rw [zu_n (by omega)]; exact if_pos (by omega)
    have Ls : ∀ i j, 0 ≤ i → i < j → j < cc → L i < L j := hLs
    rw [if_pos hT]
    refine ⟨⟨by omega, by rw [at1 L v 0 (by omega)]; exact hL0, by rw [show cc + 1 - 1 = cc by omega, at2 L v cc (by omega) (by omega)]; exact hLe, fun i j i1 ij j1 => ?_, zb _ f v (ib L hLb) hv, zb _ f x (ib V hVb) hx⟩, by omega, fun i i1 i2 => ?_, fun u u1 u2 u3 => ?_⟩
    · rcases Int.lt_trichotomy i f with c | c | c
      · rw [at1 L v i c]
        rcases Int.lt_trichotomy j f with d | d | d
        · rw [at1 L v j d]; exact Ls i j i1 ij (by omega)
        · rw [d, zu_s]; exact f2 i i1 c
        · rw [at2 L v j d (by omega)]
          by_cases e : j - 1 = i
          · omega
          · exact Ls i (j - 1) i1 (by omega) (by omega)
      · rw [c, zu_s, at2 L v j (by omega) (by omega)]
        by_cases e : j - 1 = f
        · rw [e]; exact g2
        · have := Ls f (j - 1) (by omega) (by omega) (by omega); omega
      · rw [at2 L v i c (by omega), at2 L v j (by omega) (by omega)]
        exact Ls (i - 1) (j - 1) (by omega) (by omega) (by omega)
    · rcases Int.lt_trichotomy i f with c | c | c
      · rw [at1 L v i c, at1 V x i c]
        have := f2 i i1 c
        rw [zu_n (by omega)]; exact r2 i i1 (by omega)
      · rw [c, zu_s, zu_s, zu_s]
      · rw [at2 L v i c (by omega), at2 V x i c (by omega)]
        have h1 : v < L (i - 1) := by
          by_cases e : i - 1 = f
          · rw [e]; exact g2
          · have := Ls f (i - 1) (by omega) (by omega) (by omega); omega
        rw [zu_n (by omega)]; exact r2 (i - 1) (by omega) (by omega)
    · by_cases e : u = v
      · exact ⟨f, by omega, by omega, by rw [zu_s]; exact e.symm⟩
      · rw [zu_n e] at u3
        obtain ⟨i, i1, i2, i3⟩ := r3 u u1 u2 u3
        by_cases c : i < f
        · exact ⟨i, i1, by omega, by rw [at1 L v i c]; exact i3⟩
        · exact ⟨i + 1, by omega, by omega, by rw [at2 L v (i + 1) (by omega) (by omega), show i + 1 - 1 = i by omega]; exact i3⟩
theorem cv0 : cvOK 2 (zu (fun _ => 0) 1 255) (zu (fun _ => 0) 1 255) ∧ cvRel 2 (zu (fun _ => 0) 1 255) (zu (fun _ => 0) 1 255) (zu (seg0 1 (-1) 255) 255 255) 2 := by
  have e0 : ∀ j : Int, j ≠ 1 → zu (fun _ => (0 : Int)) 1 255 j = 0 := fun j h => zu_n h
  have e1 : zu (fun _ => (0 : Int)) 1 255 1 = 255 := zu_s _ _ _
  have zb : ∀ j : Int, 0 ≤ zu (fun _ => (0 : Int)) 1 255 j ∧ zu (fun _ => (0 : Int)) 1 255 j ≤ 255 := fun j => by
    by_cases h : j = 1
    · rw [h, e1]; omega
    · rw [e0 j h]; omega
  refine ⟨⟨by omega, e0 0 (by omega), e1, fun i j h1 h2 h3 => ?_, zb, zb⟩, rfl, fun i h1 h2 => ?_, fun v h1 h2 h3 => ?_⟩
  · have a : i = 0 := by omega
    have b : j = 1 := by omega
    rw [a, b, e0 0 (by omega), e1]; omega
  · by_cases h : i = 1
    · rw [h, e1, zu_s]
    · have a : i = 0 := by omega
      rw [a, e0 0 (by omega), zu_n (by omega)]; rfl
  · by_cases a : v = 255
    · exact ⟨1, by omega, by omega, by rw [e1]; omega⟩
    · by_cases b : v = 0
      · exact ⟨0, by omega, by omega, by rw [e0 0 (by omega)]; omega⟩
      · exfalso; apply h3
        rw [zu_n a]
        exact if_pos (by omega)
