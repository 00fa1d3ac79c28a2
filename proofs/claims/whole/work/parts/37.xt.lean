/-! THE SEARCH: what a call of extend finds and leaves -/
def Fx (S : Shp) (fi : Int) (dn : Nat) (l f s : Int) (t : Nat) : Int := fn S fi (dn ||| t) (sfT S.V t S.cnt) (endS S t l f) (smT S t (endS S t l f) s S.cnt)
/-- the first path by which the cost fl is reached -/
def Gp (S : Shp) (fi fl : Int) : Nat → Int → Int → Int → List Nat → Prop
  | dn, _, _, s, [] => dn = alS S ∧ s = fl
  | dn, l, f, s, t :: ts => dn ≠ alS S ∧ t < 2 ^ S.cnt ∧ alw S fi dn t = true ∧ (∀ u, u < t → alw S fi dn u = true → fl < Fx S fi dn l f s u) ∧ Gp S fi fl (dn ||| t) (sfT S.V t S.cnt) (endS S t l f) (smT S t (endS S t l f) s S.cnt) ts
def FoundP (fo : Nat → Int) (fc : Int) (ch : Nat → Int) (depth : Nat) (ts : List Nat) : Prop := fc = ((depth + ts.length : Nat) : Int) ∧ (∀ i, i < depth → fo i = ch i) ∧ ∀ i, i < ts.length → fo (depth + i) = (ts.getD i 0 : Int)
def SnO (sC sT sX : Nat → Int) : Prop := (∀ i, i < 1024 → ∃ k : Nat, k ≤ 3 ∧ sC i = (k : Int)) ∧ (∀ i, 0 ≤ sT i ∧ sT i ≤ 100000) ∧ ∀ i, -4000000000000 ≤ sX i ∧ sX i ≤ 4000000000000
def Dmn (S : Shp) (fi : Int) (dn : Nat) (bs : Int) (sC sT sX : Nat → Int) : Prop := ∀ e l : Nat, dn < e → e < 2 ^ S.cnt → l < 4 → ∀ x : Nat, (x : Int) < sC (4 * e + l) → bs ≤ fn S fi e (l : Int) (sT (3 * (4 * e + l) + x)) (sX (3 * (4 * e + l) + x))
def Kep (dn : Nat) (sC sT sX sC' sT' sX' : Nat → Int) : Prop := (∀ i, i < 4 * (dn + 1) → sC' i = sC i) ∧ ∀ i, i < 12 * (dn + 1) → sT' i = sT i ∧ sX' i = sX i
def PreX (S : Shp) (fi fl : Int) (depth dn : Nat) (l f s bs : Int) (sC sT sX : Nat → Int) : Prop :=
  dn < 2 ^ S.cnt ∧ depth + rmT dn S.cnt ≤ S.cnt ∧ (depth = 0 ↔ dn = 0) ∧ (-1 ≤ l ∧ l ≤ 3) ∧ (0 ≤ f ∧ f ≤ 300 + 460 * depth) ∧ (-1000000000000 - 4000 * depth ≤ s ∧ s ≤ 4000000000 * depth) ∧ (-2000000000000 ≤ bs ∧ bs ≤ INF) ∧ (dn = alS S → s < bs) ∧ fl ≤ fn S fi dn l f s ∧ SnO sC sT sX ∧ Dmn S fi dn bs sC sT sX
def XR (S : Shp) (fi fl : Int) (depth dn : Nat) (l f s bs : Int) (ch sC sT sX : Nat → Int) (bs' fc' : Int) (ch' fo' sC' sT' sX' : Nat → Int) : Prop :=
  bs' = min bs (fn S fi dn l f s) ∧ (∀ i, i < depth → ch' i = ch i) ∧ (bs = fl + 1 → fn S fi dn l f s = fl → ∃ ts, Gp S fi fl dn l f s ts ∧ FoundP fo' fc' ch depth ts) ∧ SnO sC' sT' sX' ∧ Dmn S fi dn bs' sC' sT' sX' ∧ Kep dn sC sT sX sC' sT' sX'
def XI (S : Shp) (fi fl : Int) (depth dn : Nat) (l f s bs : Int) (ch sC sT sX : Nat → Int) (a : Nat) (bs' fc' : Int) (ch' fo' sC' sT' sX' : Nat → Int) : Prop :=
  bs' = min bs (mnS (alw S fi dn) (Fx S fi dn l f s) a) ∧ (∀ i, i < depth → ch' i = ch i) ∧ (bs = fl + 1 → fn S fi dn l f s = fl → bs' = fl + 1 ∨ (bs' = fl ∧ ∃ ts, Gp S fi fl dn l f s ts ∧ FoundP fo' fc' ch depth ts)) ∧ SnO sC' sT' sX' ∧ Dmn S fi dn bs' sC' sT' sX' ∧ Kep dn sC sT sX sC' sT' sX'
theorem mnS_skip {P : Nat → Bool} {f : Nat → Int} {a : Nat} : ∀ b, a ≤ b → (∀ s, a ≤ s → s < b → P s = false) → mnS P f b = mnS P f a
  | 0, h, _ => by rw [show a = 0 by omega]
  | b + 1, h, hn => by
    by_cases q : a = b + 1
    · rw [q]
    · show (if _ then _ else _) = _
      rw [hn b (by omega) (by omega), if_neg (by decide)]
      exact mnS_skip b (by omega) (fun s h1 h2 => hn s h1 (by omega))
theorem mnS_anti {P : Nat → Bool} {f : Nat → Int} {a : Nat} : ∀ b, a ≤ b → mnS P f b ≤ mnS P f a
  | 0, h => by rw [show a = 0 by omega]; exact Int.le_refl _
  | b + 1, h => by
    by_cases q : a = b + 1
    · rw [q]; exact Int.le_refl _
    · have := mnS_anti (P := P) (f := f) b (show a ≤ b by omega)
      rw [show mnS P f (b + 1) = if P b then min (mnS P f b) (f b) else mnS P f b from rfl]
      split <;> omega
theorem alw_no {S : Shp} {fi : Int} {dn s : Nat} (h : okS S s = false) : alw S fi dn s = false := by
  unfold alw; rw [h]; rfl
theorem XI_zero {S : Shp} {fi fl : Int} {depth dn : Nat} {l f s bs fc : Int} {ch fo sC sT sX : Nat → Int} (h : PreX S fi fl depth dn l f s bs sC sT sX) : XI S fi fl depth dn l f s bs ch sC sT sX 0 bs fc ch fo sC sT sX := by
  obtain ⟨-, -, -, -, -, -, hb, -, -, h1, h2⟩ := h
  refine ⟨?_, fun _ _ => rfl, fun z _ => Or.inl z, h1, h2, fun _ _ => rfl, fun _ _ => ⟨rfl, rfl⟩⟩
  show bs = min bs INF
  omega
theorem XI_no {S : Shp} {fi fl : Int} {depth dn : Nat} {l f s bs bs1 fc1 : Int} {ch sC sT sX ch1 fo1 sC1 sT1 sX1 : Nat → Int} {a t : Nat} (h : XI S fi fl depth dn l f s bs ch sC sT sX a bs1 fc1 ch1 fo1 sC1 sT1 sX1) (ha : a ≤ t) (hn : ∀ u, a ≤ u → u < t → okS S u = false) (ht : alw S fi dn t = false) : XI S fi fl depth dn l f s bs ch sC sT sX (t + 1) bs1 fc1 ch1 fo1 sC1 sT1 sX1 := by
  obtain ⟨h1, h2⟩ := h
  refine ⟨?_, h2⟩
  rw [mnS_skip (a := a) (t + 1) (by omega) (fun u u1 u2 => ?_)]
  · exact h1
  · by_cases q : u = t
    · rw [q]; exact ht
    · exact alw_no (hn u u1 (by omega))
theorem mnS_to {S : Shp} {fi : Int} {dn a t : Nat} {g : Nat → Int} (ha : a ≤ t) (hn : ∀ u, a ≤ u → u < t → okS S u = false) (ht : alw S fi dn t = true) : mnS (alw S fi dn) g (t + 1) = min (mnS (alw S fi dn) g a) (g t) := by
  show (if _ then _ else _) = _
  rw [if_pos ht, mnS_skip (a := a) t ha (fun u u1 u2 => alw_no (hn u u1 u2))]
theorem XI_ge {S : Shp} {fi fl : Int} {depth dn : Nat} {l f s bs bs1 fc1 : Int} {ch sC sT sX ch1 fo1 sC1 sT1 sX1 : Nat → Int} {a t : Nat} (h : XI S fi fl depth dn l f s bs ch sC sT sX a bs1 fc1 ch1 fo1 sC1 sT1 sX1) (ha : a ≤ t) (hn : ∀ u, a ≤ u → u < t → okS S u = false) (ht : alw S fi dn t = true) (hg : bs1 ≤ Fx S fi dn l f s t) : XI S fi fl depth dn l f s bs ch sC sT sX (t + 1) bs1 fc1 ch1 fo1 sC1 sT1 sX1 := by
  obtain ⟨h1, h2⟩ := h
  refine ⟨?_, h2⟩
  rw [mnS_to ha hn ht]
  omega
theorem XI_end2 {S : Shp} {fi fl : Int} {depth dn : Nat} {l f s bs bs1 fc1 : Int} {ch sC sT sX ch1 fo1 sC1 sT1 sX1 : Nat → Int} {a : Nat} (hc : S.cnt ≤ 8) (hp : PreX S fi fl depth dn l f s bs sC sT sX) (hd : dn ≠ alS S) (ha : a ≤ 2 ^ S.cnt) (h : XI S fi fl depth dn l f s bs ch sC sT sX a bs1 fc1 ch1 fo1 sC1 sT1 sX1) (he : bs1 ≤ fl ∨ mnS (alw S fi dn) (Fx S fi dn l f s) a = fn S fi dn l f s) : XR S fi fl depth dn l f s bs ch sC sT sX bs1 fc1 ch1 fo1 sC1 sT1 sX1 := by
  obtain ⟨hdn, -, -, -, -, -, hb, -, hfl, -, -⟩ := hp
  obtain ⟨h1, h2, h3, h4⟩ := h
  have e : fn S fi dn l f s = mnS (alw S fi dn) (Fx S fi dn l f s) (2 ^ S.cnt) := fn_eq hc hdn hd
  have m := mnS_anti (P := alw S fi dn) (f := Fx S fi dn l f s) (2 ^ S.cnt) ha
  refine ⟨by omega, h2, fun z1 z2 => ?_, h4⟩
  rcases h3 z1 z2 with q | ⟨_, q⟩
  · exfalso; omega
  · exact q
theorem XI_end1 {S : Shp} {fi fl : Int} {depth dn : Nat} {l f s : Int} {a : Nat} (hc : S.cnt ≤ 8) (hdn : dn < 2 ^ S.cnt) (hd : dn ≠ alS S) (ha : a ≤ 2 ^ S.cnt) (h : scT S (2 ^ S.cnt) ≤ scT S a) : mnS (alw S fi dn) (Fx S fi dn l f s) a = fn S fi dn l f s := by
  have e : fn S fi dn l f s = mnS (alw S fi dn) (Fx S fi dn l f s) (2 ^ S.cnt) := fn_eq hc hdn hd
  rw [e]
  refine (mnS_skip _ ha (fun u u1 u2 => alw_no ?_)).symm
  cases q : okS S u with
  | false => rfl
  | true =>
    exfalso
    have m1 := scT_mono (S := S) (x := a) u u1
    have m2 := scT_mono (S := S) (x := u + 1) (2 ^ S.cnt) (by omega)
    rw [show scT S (u + 1) = if okS S u then scT S u + 1 else scT S u from rfl, q, if_pos rfl] at m2
    omega
theorem pen_small {S : Shp} (hk : Sok S) (j : Nat) {C : Int} (hC : 0 ≤ C ∧ C ≤ 6000) : -500 ≤ pen S j C ∧ pen S j C ≤ 400000000 := by
  have h1 := pen_r hk.v j (C := C) (by omega)
  refine ⟨h1.1, ?_⟩
  have h3 := hk.v 3 j
  have h4 := hk.v 4 j
  have w1 : S.V 4 j ≤ 9 := h4.2.2.2.2.2 rfl
  have hw : 0 ≤ S.V 4 j := h4.1
  have hd : 0 ≤ S.V 3 j := h3.1
  unfold pen penz
  split
  · omega
  · split
    · omega
    · split
      · have := Int.mul_le_mul w1 hC.2 hC.1 (by omega); omega
      · split
        · omega
        · have l0 : 0 ≤ C - S.V 3 j := by omega
          have l1 : C - S.V 3 j ≤ 6000 := by omega
          have a1 := Int.mul_le_mul w1 l1 l0 (by omega)
          have a2 := Int.mul_nonneg hw l0
          split
          · omega
          · split
            · have b1 := Int.mul_le_mul a1 l1 l0 (by omega); omega
            · omega
theorem smT_small {S : Shp} (hk : Sok S) {t : Nat} {en s lo hi : Int} (he : 0 ≤ en ∧ en ≤ 6000) (hs : lo ≤ s ∧ s ≤ hi) (hh : 0 ≤ hi) (hl : lo ≤ 0) : ∀ j, lo - 500 * j ≤ smT S t en s j ∧ smT S t en s j ≤ hi + 400000000 * j
  | 0 => by unfold smT; omega
  | j + 1 => by
    have h1 := smT_small hk (t := t) he hs hh hl j
    have h2 := pen_small hk j he
    unfold smT jn
    split
    · split <;> omega
    · omega
theorem endS_r {S : Shp} (hk : Sok S) (t : Nat) (l : Int) {f B : Int} (hf : 0 ≤ f ∧ f ≤ B) (hB : 300 ≤ B) : 0 ≤ endS S t l f ∧ endS S t l f ≤ B + 460 := by
  have h1 := gapS_r hk.t (l + 1).toNat (sfT S.V t S.cnt).toNat
  have h2 := srT_r hk.v t S.cnt
  have h3 := swT_r hk.v t S.cnt
  have h4 := hk.c
  unfold endS
  split <;> omega
theorem or_gt {S : Shp} {dn t : Nat} (h0 : t ≠ 0) (hd : t &&& dn = 0) (ht : t < 2 ^ S.cnt) : dn < dn ||| t := by
  have h1 : dn ≤ dn ||| t := Nat.left_le_or
  have h2 := rmT_lt h0 hd S.cnt ht
  by_cases q : dn = dn ||| t
  · rw [← q] at h2; omega
  · omega
theorem Fx_ge {S : Shp} {fi : Int} {dn t : Nat} {l f s : Int} (hc : S.cnt ≤ 8) (hdn : dn < 2 ^ S.cnt) (hd : dn ≠ alS S) (ht : t < 2 ^ S.cnt) (ha : alw S fi dn t = true) : fn S fi dn l f s ≤ Fx S fi dn l f s t := by
  rw [fn_eq hc hdn hd]
  exact mnS_le (f := Fx S fi dn l f s) _ ht ha
/-- a step down keeps what a call asks -/
theorem Pre_rec {S : Shp} (hk : Sok S) {fi fl : Int} {depth dn t ky k : Nat} {l f s bs bs1 fc1 : Int} {ch sC sT sX ch1 fo1 sC1 sT1 sX1 sC2 sT2 sX2 : Nat → Int} {a : Nat} (hp : PreX S fi fl depth dn l f s bs sC sT sX) (hd : dn ≠ alS S) (h : XI S fi fl depth dn l f s bs ch sC sT sX a bs1 fc1 ch1 fo1 sC1 sT1 sX1) (ht : t < 2 ^ S.cnt) (ha : alw S fi dn t = true) (hb : -2000000000000 ≤ bs1) (eky : (ky : Int) = 4 * ((dn ||| t : Nat) : Int) + sfT S.V t S.cnt) (hr : RemP ky k (endS S t l f) (smT S t (endS S t l f) s S.cnt) sC1 sT1 sX1 sC2 sT2 sX2) (hcost : smT S t (endS S t l f) s S.cnt < bs1) : PreX S fi fl (depth + 1) (dn ||| t) (sfT S.V t S.cnt) (endS S t l f) (smT S t (endS S t l f) s S.cnt) bs1 sC2 sT2 sX2 := by
  obtain ⟨hdn, hdep, hz, hl, hf, hs, hbb, -, hfl, -, -⟩ := hp
  obtain ⟨i1, i2, i3, i4, i5, i6⟩ := h
  obtain ⟨a1, a2, -⟩ := alw_i ha
  obtain ⟨t0, tf⟩ := okS_i a1
  have hc := hk.c
  have g1 := rmT_lt t0 a2 S.cnt ht
  have g2 := or_gt t0 a2 ht
  have g3 := endS_r hk t l (B := 300 + 460 * (depth : Int)) (by omega) (by omega)
  have g4 := smT_small hk (t := t) (en := endS S t l f) (s := s) (lo := -1000000000000 - 4000 * (depth : Int)) (hi := 4000000000 * (depth : Int)) (by omega) (by omega) (by omega) (by omega) S.cnt
  have g5 := Fx_ge (l := l) (f := f) (s := s) hc hdn hd ht ha
  have g6 := sfT_r hk.v t S.cnt
  have g7 := sfT_le3 hk.v t0 S.cnt ht
  obtain ⟨r1, r2, ⟨k', r3, r4, r5, r6⟩, r7, r8⟩ := hr
  refine ⟨or_lt hdn ht, by omega, by omega, by omega, by omega, by omega, by omega, fun _ => hcost, Int.le_trans hfl g5, ⟨fun i hi => ?_, r7, r8⟩, fun e l' h1 h2 h3 x hx => ?_⟩
  · by_cases q : i = ky
    · exact ⟨k', r5, by rw [q, r3]⟩
    · rw [r1 i q]; exact i4.1 i hi
  · have hn : 4 * e + l' ≠ ky := by omega
    have he : e < 256 := Nat.lt_of_lt_of_le h2 (nt_pow_r hc).2
    obtain ⟨m, m1, m2⟩ := i4.1 (4 * e + l') (by omega)
    rw [r1 _ hn] at hx
    rw [(r2 (3 * (4 * e + l') + x) (by omega)).1, (r2 (3 * (4 * e + l') + x) (by omega)).2]
    exact i5 e l' (by omega) h2 h3 x hx
theorem XI_rec {S : Shp} (hk : Sok S) {fi fl : Int} {depth dn t ky k : Nat} {l f s bs bs1 fc1 bs3 fc3 : Int} {ch sC sT sX ch1 fo1 sC1 sT1 sX1 sC2 sT2 sX2 ch3 fo3 sC3 sT3 sX3 : Nat → Int} {a : Nat} (hp : PreX S fi fl depth dn l f s bs sC sT sX) (hd : dn ≠ alS S) (h : XI S fi fl depth dn l f s bs ch sC sT sX a bs1 fc1 ch1 fo1 sC1 sT1 sX1) (haa : a ≤ t) (hn : ∀ u, a ≤ u → u < t → okS S u = false) (ht : t < 2 ^ S.cnt) (ha : alw S fi dn t = true) (hfl1 : fl < bs1) (eky : (ky : Int) = 4 * ((dn ||| t : Nat) : Int) + sfT S.V t S.cnt) (ek : sC1 ky = (k : Int)) (hr : RemP ky k (endS S t l f) (smT S t (endS S t l f) s S.cnt) sC1 sT1 sX1 sC2 sT2 sX2) (hx : XR S fi fl (depth + 1) (dn ||| t) (sfT S.V t S.cnt) (endS S t l f) (smT S t (endS S t l f) s S.cnt) bs1 (upz ch1 depth (t : Int)) sC2 sT2 sX2 bs3 fc3 ch3 fo3 sC3 sT3 sX3) : XI S fi fl depth dn l f s bs ch sC sT sX (t + 1) bs3 fc3 ch3 fo3 sC3 sT3 sX3 := by
  obtain ⟨hdn, hdep, hz, hl, hf, hs, hbb, -, hfl, -, -⟩ := hp
  obtain ⟨i1, i2, i3, i4, i5, i6, i7⟩ := h
  obtain ⟨x1, x2, x3, x4, x5, x6, x7⟩ := hx
  obtain ⟨a1, a2, -⟩ := alw_i ha
  obtain ⟨t0, tf⟩ := okS_i a1
  have hc := hk.c
  have g2 := or_gt t0 a2 ht
  have g5 := Fx_ge (l := l) (f := f) (s := s) hc hdn hd ht ha
  have g6 := sfT_r hk.v t S.cnt
  have g7 := sfT_le3 hk.v t0 S.cnt ht
  obtain ⟨r1, r2, ⟨k', r3, r4, r5, r6⟩, r7, r8⟩ := hr
  have eF : fn S fi (dn ||| t) (sfT S.V t S.cnt) (endS S t l f) (smT S t (endS S t l f) s S.cnt) = Fx S fi dn l f s t := rfl
  rw [eF] at x1 x3
  refine ⟨?_, fun i hi => ?_, fun z1 z2 => ?_, x4, fun e l' h1 h2 h3 x hx => ?_, fun i hi => ?_, fun i hi => ?_⟩
  · rw [mnS_to haa hn ha]; omega
  · rw [x2 i (by omega), upz_ne (by omega)]; exact i2 i hi
  · have b1 : bs1 = fl + 1 := by
      rcases i3 z1 z2 with q | ⟨q, -⟩
      · exact q
      · omega
    by_cases q : Fx S fi dn l f s t = fl
    · right
      refine ⟨by omega, ?_⟩
      obtain ⟨ts, p1, p2, p3, p4⟩ := x3 b1 q
      refine ⟨t :: ts, ⟨hd, ht, ha, fun u u1 u2 => ?_, p1⟩, ?_, fun i hi => ?_, fun i hi => ?_⟩
      · by_cases q2 : u < a
        · have := mnS_le (f := Fx S fi dn l f s) a q2 u2
          omega
        · have e := hn u (by omega) u1
          rw [alw_no e] at u2
          exact absurd u2 (by decide)
      · rw [p2, List.length_cons]; omega
      · rw [p3 i (by omega), upz_ne (by omega)]; exact i2 i hi
      · cases i with
        | zero => rw [Nat.add_zero, p3 depth (by omega), upz_eq]; rfl
        | succ i =>
          rw [List.length_cons] at hi
          rw [show depth + (i + 1) = depth + 1 + i by omega, p4 i (by omega)]
          rfl
    · left; omega
  · have he : e < 256 := Nat.lt_of_lt_of_le h2 (nt_pow_r hc).2
    by_cases q : dn ||| t < e
    · exact x5 e l' q h2 h3 x hx
    · rw [x6 (4 * e + l') (by omega)] at hx
      have hx3 : x < 3 := by
        by_cases q2 : 4 * e + l' = ky
        · rw [q2, r3] at hx; omega
        · obtain ⟨m, m1, m2⟩ := i4.1 (4 * e + l') (by omega)
          rw [r1 _ q2, m2] at hx; omega
      rw [(x7 (3 * (4 * e + l') + x) (by omega)).1, (x7 (3 * (4 * e + l') + x) (by omega)).2]
      by_cases q2 : 4 * e + l' = ky
      · have qe : e = dn ||| t := by omega
        have ql : (l' : Int) = sfT S.V t S.cnt := by omega
        rw [q2] at hx ⊢
        rw [r3] at hx
        rcases r6 x (by omega) with ⟨y1, y2⟩ | ⟨y, y1, y2, y3⟩
        · rw [y1, y2, qe, ql, eF]; omega
        · rw [y2, y3]
          have := i5 e l' h1 h2 h3 y (by rw [q2, ek]; omega)
          rw [q2] at this
          omega
      · rw [r1 _ q2] at hx
        rw [(r2 (3 * (4 * e + l') + x) (by omega)).1, (r2 (3 * (4 * e + l') + x) (by omega)).2]
        have := i5 e l' h1 h2 h3 x hx
        omega
  · rw [x6 i (by omega), r1 i (by omega)]; exact i6 i hi
  · rw [(x7 i (by omega)).1, (x7 i (by omega)).2, (r2 i (by omega)).1, (r2 i (by omega)).2]; exact i7 i hi
