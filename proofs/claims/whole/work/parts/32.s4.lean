/-! Search: the sets -/
theorem b_or {r j : Nat} (hr : r < 2 ^ j) : r ||| 2 ^ j = r + 2 ^ j := by
  have h := Nat.two_pow_add_eq_or_of_lt hr 1
  rw [Nat.mul_one] at h
  rw [Nat.or_comm]; omega
theorem b_low {r j k : Nat} (hk : k < j) : (r + 2 ^ j) / 2 ^ k % 2 = r / 2 ^ k % 2 := by
  obtain ⟨m, rfl⟩ : ∃ m, j = k + 1 + m := ⟨j - (k + 1), by omega⟩
  rw [Nat.pow_add, Nat.pow_add, Nat.pow_one, Nat.mul_assoc, Nat.add_mul_div_left _ _ Nat.one_le_two_pow]
  omega
theorem b_at {r j : Nat} (hr : r < 2 ^ j) : (r + 2 ^ j) / 2 ^ j % 2 = 1 := by
  rw [Nat.add_div_right _ Nat.one_le_two_pow, Nat.div_eq_of_lt hr]
theorem b_high {s j k : Nat} (hs : s < 2 ^ j) (hk : j ≤ k) : s / 2 ^ k % 2 = 0 := by
  rw [Nat.div_eq_of_lt (Nat.lt_of_lt_of_le hs (Nat.pow_le_pow_right (by decide) hk))]
theorem b_less {s j : Nat} (hs : s < 2 ^ (j + 1)) (hb : s / 2 ^ j % 2 ≠ 1) : s < 2 ^ j := by
  rw [Nat.pow_succ] at hs
  have h1 : s / 2 ^ j < 2 := Nat.div_lt_of_lt_mul hs
  have h2 : s / 2 ^ j = 0 := (fun (q : Nat) (a : q < 2) (b : q % 2 ≠ 1) => (by omega : q = 0)) _ h1 hb
  exact (Nat.div_eq_zero_iff_lt Nat.one_le_two_pow).mp h2
theorem sfT_add {V : Nat → Nat → Int} {r j : Nat} : ∀ k, k ≤ j → sfT V (r + 2 ^ j) k = sfT V r k
  | 0, _ => rfl
  | k + 1, hk => by unfold sfT; rw [b_low (by omega), sfT_add k (by omega)]
theorem srT_add {V : Nat → Nat → Int} {r j : Nat} : ∀ k, k ≤ j → srT V (r + 2 ^ j) k = srT V r k
  | 0, _ => rfl
  | k + 1, hk => by unfold srT; rw [b_low (by omega), srT_add k (by omega)]
theorem swT_add {V : Nat → Nat → Int} {r j : Nat} : ∀ k, k ≤ j → swT V (r + 2 ^ j) k = swT V r k
  | 0, _ => rfl
  | k + 1, hk => by unfold swT; rw [b_low (by omega), swT_add k (by omega)]
theorem sfT_top {V : Nat → Nat → Int} {s j : Nat} (hs : s < 2 ^ j) : ∀ k, j ≤ k → sfT V s k = sfT V s j
  | 0, hk => by rw [show j = 0 by omega]
  | k + 1, hk => by
    by_cases q : j = k + 1
    · rw [q]
    · rw [← sfT_top hs k (by omega)]
      show (if _ then _ else _) = _
      rw [if_neg (by rw [b_high hs (by omega)]; omega)]
theorem srT_top {V : Nat → Nat → Int} {s j : Nat} (hs : s < 2 ^ j) : ∀ k, j ≤ k → srT V s k = srT V s j
  | 0, hk => by rw [show j = 0 by omega]
  | k + 1, hk => by
    by_cases q : j = k + 1
    · rw [q]
    · rw [← srT_top hs k (by omega)]
      show (if _ then _ else _) = _
      rw [if_neg (by rw [b_high hs (by omega)]; omega)]
theorem swT_top {V : Nat → Nat → Int} {s j : Nat} (hs : s < 2 ^ j) : ∀ k, j ≤ k → swT V s k = swT V s j
  | 0, hk => by rw [show j = 0 by omega]
  | k + 1, hk => by
    by_cases q : j = k + 1
    · rw [q]
    · rw [← swT_top hs k (by omega)]
      show (if _ then _ else _) = _
      rw [if_neg (by rw [b_high hs (by omega)]; omega)]
theorem sfT_le3 {V : Nat → Nat → Int} (hV : Vok V) {s : Nat} (h0 : s ≠ 0) : ∀ j, s < 2 ^ j → sfT V s j ≤ 3
  | 0, h => by rw [Nat.pow_zero] at h; omega
  | j + 1, h => by
    have h2 := hV 0 j
    unfold sfT
    by_cases q : s / 2 ^ j % 2 = 1
    · rw [if_pos q]; split <;> omega
    · rw [if_neg q]; exact sfT_le3 hV h0 j (b_less h q)
theorem sfT_zero {V : Nat → Nat → Int} : ∀ j, sfT V 0 j = 4
  | 0 => rfl
  | j + 1 => by unfold sfT; rw [Nat.zero_div, if_neg (by omega)]; exact sfT_zero j
theorem srT_zero {V : Nat → Nat → Int} : ∀ j, srT V 0 j = 0
  | 0 => rfl
  | j + 1 => by unfold srT; rw [Nat.zero_div, if_neg (by omega)]; exact srT_zero j
theorem swT_zero {V : Nat → Nat → Int} : ∀ j, swT V 0 j = 0
  | 0 => rfl
  | j + 1 => by unfold swT; rw [Nat.zero_div, if_neg (by omega)]; exact swT_zero j
theorem lt_add2 {r j : Nat} (hr : r < 2 ^ j) : r + 2 ^ j < 2 ^ (j + 1) := by rw [Nat.pow_succ]; omega
theorem sfT_mk {V : Nat → Nat → Int} {r j c : Nat} (hr : r < 2 ^ j) (hj : j < c) : sfT V (r + 2 ^ j) c = if sfT V r c = 4 ∨ sfT V r c = V 0 j then V 0 j else -1 := by
  rw [sfT_top (lt_add2 hr) c (by omega), sfT_top hr c (by omega)]
  show (if _ then _ else _) = _
  rw [if_pos (b_at hr), sfT_add j (Nat.le_refl _)]
theorem srT_mk {V : Nat → Nat → Int} {r j c : Nat} (hr : r < 2 ^ j) (hj : j < c) : srT V (r + 2 ^ j) c = max (srT V r c) (V 2 j) := by
  rw [srT_top (lt_add2 hr) c (by omega), srT_top hr c (by omega)]
  show (if _ then _ else _) = _
  rw [if_pos (b_at hr), srT_add j (Nat.le_refl _)]
theorem swT_mk {V : Nat → Nat → Int} {r j c : Nat} (hr : r < 2 ^ j) (hj : j < c) : swT V (r + 2 ^ j) c = swT V r c + V 1 j := by
  rw [swT_top (lt_add2 hr) c (by omega), swT_top hr c (by omega)]
  show (if _ then _ else _) = _
  rw [if_pos (b_at hr), swT_add j (Nat.le_refl _)]
def DsP (S : Shp) (s : Nat) (fa re wo : Nat → Int) : Prop := fa s = sfT S.V s S.cnt ∧ re s = srT S.V s S.cnt ∧ wo s = swT S.V s S.cnt
def pw2 (s : Nat) : Bool := s == 1 || s == 2 || s == 4 || s == 8 || s == 16 || s == 32 || s == 64 || s == 128
/-- a set that can come next -/
def okS (S : Shp) (s : Nat) : Bool := s != 0 && (decide (S.wh = 1) || pw2 s) && decide (sfT S.V s S.cnt ≠ -1)
def scT (S : Shp) : Nat → Nat
  | 0 => 0
  | s + 1 => if okS S s then scT S s + 1 else scT S s
theorem scT_le (S : Shp) : ∀ s, scT S s ≤ s
  | 0 => Nat.le_refl _
  | s + 1 => by have := scT_le S s; unfold scT; split <;> omega
theorem scT_skip {S : Shp} {a : Nat} : ∀ b, a ≤ b → (∀ s, a ≤ s → s < b → okS S s = false) → scT S b = scT S a
  | 0, h, _ => by rw [show a = 0 by omega]
  | b + 1, h, hn => by
    by_cases q : a = b + 1
    · rw [q]
    · show (if _ then _ else _) = _
      rw [hn b (by omega) (by omega), if_neg (by decide)]
      exact scT_skip b (by omega) (fun s h1 h2 => hn s h1 (by omega))
theorem scT_next {S : Shp} {a : Nat} : ∀ b, a ≤ b → scT S a < scT S b → ∃ s, a ≤ s ∧ s < b ∧ okS S s = true ∧ scT S s = scT S a ∧ ∀ t, a ≤ t → t < s → okS S t = false
  | 0, h, h1 => by rw [show a = 0 by omega] at h1; omega
  | b + 1, h, h1 => by
    by_cases q : a = b + 1
    · rw [q] at h1; omega
    · by_cases q2 : scT S a < scT S b
      · obtain ⟨s, x1, x2, x3⟩ := scT_next b (by omega) q2
        exact ⟨s, x1, by omega, x3⟩
      · have h2 : scT S (b + 1) = if okS S b then scT S b + 1 else scT S b := rfl
        by_cases q3 : okS S b = true
        · by_cases q4 : ∃ t, a ≤ t ∧ t < b ∧ okS S t = true
          · exfalso
            obtain ⟨t, t1, t2, t3⟩ := q4
            have hm : ∀ x y, x ≤ y → scT S x ≤ scT S y := by
              intro x y hxy
              induction y with
              | zero => rw [show x = 0 by omega]; exact Nat.le_refl _
              | succ y ih =>
                by_cases q5 : x = y + 1
                · rw [q5]; exact Nat.le_refl _
                · have := ih (by omega)
                  rw [show scT S (y + 1) = if okS S y then scT S y + 1 else scT S y from rfl]
                  split <;> omega
            have m1 := hm a t t1
            have m2 := hm (t + 1) b (by omega)
            have m3 : scT S (t + 1) = if okS S t then scT S t + 1 else scT S t := rfl
            rw [if_pos t3] at m3
            omega
          · have hf : ∀ t, a ≤ t → t < b → okS S t = false := fun t t1 t2 => by
              cases e : okS S t with
              | false => rfl
              | true => exact absurd ⟨t, t1, t2, e⟩ q4
            exact ⟨b, by omega, by omega, q3, scT_skip b (by omega) hf, hf⟩
        · rw [if_neg q3] at h2; omega
/-- what the rows of the sets hold -/
def Sets (S : Shp) (k sc : Nat) (st fa re wo : Nat → Int) : Prop := sc = scT S k ∧ ∀ s, s < k → okS S s = true → st (scT S s) = (s : Int) ∧ DsP S s fa re wo
theorem pw2_pow {j : Nat} (h : j < 8) : pw2 (2 ^ j) = true := by
  rcases (show j = 0 ∨ j = 1 ∨ j = 2 ∨ j = 3 ∨ j = 4 ∨ j = 5 ∨ j = 6 ∨ j = 7 by omega) with q | q | q | q | q | q | q | q <;> subst q <;> rfl
theorem pw2_no {j s : Nat} (h : j < 8) (h1 : 2 ^ j < s) (h2 : s < 2 ^ (j + 1)) : pw2 s = false := by
  unfold pw2
  rcases (show j = 0 ∨ j = 1 ∨ j = 2 ∨ j = 3 ∨ j = 4 ∨ j = 5 ∨ j = 6 ∨ j = 7 by omega) with q | q | q | q | q | q | q | q <;> subst q <;> simp only [Bool.or_eq_false_iff, beq_eq_false_iff_ne] <;> omega
theorem scT_mono {S : Shp} {x : Nat} : ∀ y, x ≤ y → scT S x ≤ scT S y
  | 0, h => by rw [show x = 0 by omega]; exact Nat.le_refl _
  | y + 1, h => by
    by_cases q5 : x = y + 1
    · rw [q5]; exact Nat.le_refl _
    · have := scT_mono (S := S) (x := x) y (by omega)
      rw [show scT S (y + 1) = if okS S y then scT S y + 1 else scT S y from rfl]
      split <;> omega
theorem DsP.keep {S : Shp} {s t : Nat} {fa re wo fa' re' wo' : Nat → Int} (hn : ∀ i, i ≠ t → fa' i = fa i ∧ re' i = re i ∧ wo' i = wo i) (h : s ≠ t) (hd : DsP S s fa re wo) : DsP S s fa' re' wo' := by
  unfold DsP
  rw [(hn s h).1, (hn s h).2.1, (hn s h).2.2]
  exact hd
theorem Sets.no {S : Shp} {s sc : Nat} {st fa re wo fa' re' wo' : Nat → Int} (h : Sets S s sc st fa re wo) (hn : ∀ i, i ≠ s → fa' i = fa i ∧ re' i = re i ∧ wo' i = wo i) (ho : okS S s = false) : Sets S (s + 1) sc st fa' re' wo' := by
  refine ⟨?_, fun t ht hok => ?_⟩
  · rw [show scT S (s + 1) = if okS S s then scT S s + 1 else scT S s from rfl, ho, if_neg (by decide)]; exact h.1
  · by_cases q : t = s
    · rw [q, ho] at hok; exact absurd hok (by decide)
    · exact ⟨(h.2 t (by omega) hok).1, (h.2 t (by omega) hok).2.keep hn q⟩
theorem Sets.yes {S : Shp} {s sc : Nat} {st fa re wo fa' re' wo' : Nat → Int} (h : Sets S s sc st fa re wo) (hn : ∀ i, i ≠ s → fa' i = fa i ∧ re' i = re i ∧ wo' i = wo i) (hd : DsP S s fa' re' wo') (ho : okS S s = true) : Sets S (s + 1) (sc + 1) (upz st sc (s : Int)) fa' re' wo' := by
  refine ⟨?_, fun t ht hok => ?_⟩
  · rw [show scT S (s + 1) = if okS S s then scT S s + 1 else scT S s from rfl, ho, if_pos rfl, h.1]
  · by_cases q : t = s
    · rw [q, ← h.1, upz_eq]; exact ⟨rfl, hd⟩
    · have h1 : scT S t < sc := by
        have m := scT_mono (S := S) (x := t + 1) s (by omega)
        rw [show scT S (t + 1) = if okS S t then scT S t + 1 else scT S t from rfl, hok, if_pos rfl] at m
        have := h.1
        omega
      rw [upz_ne (by omega)]
      exact ⟨(h.2 t (by omega) hok).1, (h.2 t (by omega) hok).2.keep hn q⟩
theorem Sets.up {S : Shp} {j sc : Nat} {st fa re wo : Nat → Int} (hj : j < 8) (hw : S.wh ≠ 1) (h : Sets S (1 + 2 ^ j) sc st fa re wo) : Sets S (2 ^ (j + 1)) sc st fa re wo := by
  have hn : ∀ s, 1 + 2 ^ j ≤ s → s < 2 ^ (j + 1) → okS S s = false := fun s h1 h2 => by
    unfold okS
    rw [pw2_no hj (by omega) h2, decide_eq_false hw]
    simp
  have hp : 1 + 2 ^ j ≤ 2 ^ (j + 1) := by rw [Nat.pow_succ]; have := nt_pow_r (j := j) (by omega); omega
  refine ⟨by rw [scT_skip _ hp hn]; exact h.1, fun s hs hok => ?_⟩
  by_cases q : s < 1 + 2 ^ j
  · exact h.2 s q hok
  · rw [hn s (by omega) hs] at hok; exact absurd hok (by decide)
def Dall (S : Shp) (k : Nat) (fa re wo : Nat → Int) : Prop := ∀ s, s ≠ 0 → s < k → (S.wh = 1 ∨ pw2 s = true) → DsP S s fa re wo
theorem Dall.step {S : Shp} {s : Nat} {fa re wo fa' re' wo' : Nat → Int} (h : Dall S s fa re wo) (hn : ∀ i, i ≠ s → fa' i = fa i ∧ re' i = re i ∧ wo' i = wo i) (hd : DsP S s fa' re' wo') : Dall S (s + 1) fa' re' wo' := fun t h0 ht hok => by
  by_cases q : t = s
  · rw [q]; exact hd
  · exact (h t h0 (by omega) hok).keep hn q
theorem Dall.up {S : Shp} {j : Nat} {fa re wo : Nat → Int} (hj : j < 8) (hw : S.wh ≠ 1) (h : Dall S (1 + 2 ^ j) fa re wo) : Dall S (2 ^ (j + 1)) fa re wo := fun s h0 hs hok => by
  by_cases q : s < 1 + 2 ^ j
  · exact h s h0 q hok
  · rcases hok with q2 | q2
    · exact absurd q2 hw
    · rw [pw2_no hj (by omega) hs] at q2; exact absurd q2 (by decide)
set_option maxHeartbeats 4000000 in
set_option maxRecDepth 100000 in
theorem k_Search_describeSet {d n : Nat} {h : PH} {b : Nat} {S : Shp} {al fi bs fl sc fc : Int} {st fa re wo lg rk ch fo sC sT sX : Nat → Int} {G : Nat → Nat → Int} {r j s : Nat} (hd : 1 ≤ d) (hk : Sok S) (hj : j < S.cnt) (hr : r < 2 ^ j) (hs : s = r + 2 ^ j) (hfr : r ≠ 0 → DsP S r fa re wo) (hS : isShp n h (b + 1) S) (hX : isSearch n h b al fi bs fl sc st fa re wo G lg rk ch fo fc sC sT sX) : CtrV mX1_describeSet d [vR b, vI (r : Int), vI (j : Int)] n h (fun h' => ∃ fa' re' wo', isSearch n h' b al fi bs fl sc st fa' re' wo' G lg rk ch fo fc sC sT sX ∧ isShp n h' (b + 1) S ∧ (∀ i, i ≠ s → fa' i = fa i ∧ re' i = re i ∧ wo' i = wo i) ∧ DsP S s fa' re' wo' ∧ Fr h h' b (b + 31)) := by
  have hV := hk.v
  have hT := hk.t
  have hc8 := hk.c
  have hsf := sfT_mk (V := S.V) hr hj
  have hsr := srT_mk (V := S.V) hr hj
  have hsw := swT_mk (V := S.V) hr hj
  rw [← hs] at hsf hsr hsw
  have v0 : 0 ≤ S.V 0 j ∧ S.V 0 j ≤ 3 := by have := hV 0 j; omega
  have v1 : 0 ≤ S.V 1 j ∧ S.V 1 j ≤ 50 := by have := hV 1 j; omega
  have v2 : 0 ≤ S.V 2 j ∧ S.V 2 j ≤ 300 := by have := hV 2 j; omega
  have f0 := sfT_r hV r S.cnt
  have f1 := srT_r hV r S.cnt
  have f2 := swT_r hV r S.cnt
  have p0 := nt_pow_r (j := j) (by omega)
  have p1 : r < 2 ^ S.cnt := Nat.lt_of_lt_of_le hr (Nat.pow_le_pow_right (by decide) (by omega))
  have hrc := p1
  have p2 : 2 ^ (j + 1) ≤ 256 := (nt_pow_r (j := j + 1) (by omega)).2
  rw [Nat.pow_succ] at p2
  have hF : Fr h h b (b + 31) := Fr.rf
  refine q_beginV (L := [some (vR b), some (vI (r : Int)), some (vI (j : Int)), none]) rfl ?_
  refine q_iload_n (pc' := 1) (dk_at dkX1_describeSet 0 rfl) rfl rfl ?_
  refine q_iconst (pc' := 2) (dk_at dkX1_describeSet 1 rfl) rfl ?_
  refine q_iload_n (pc' := 3) (dk_at dkX1_describeSet 2 rfl) rfl rfl ?_
  refine q_ishl (pc' := 4) (dk_at dkX1_describeSet 3 rfl) (by omega) (by omega) rfl ?_
  have bb1 := nt_pow_r (j := j) (by omega)
  rw [show ((1 : Int) * 2 ^ ((j : Int)).toNat) = ((2 ^ j : Nat) : Int) from nt_shl1 j]
  refine q_ior (pc' := 5) (dk_at dkX1_describeSet 4 rfl) (by omega) (by omega) rfl ?_
  rw [show ((((r : Int)).toNat ||| (((2 ^ j : Nat) : Int)).toNat : Nat) : Int) = ((r ||| (2 ^ j) : Nat) : Int) from nt_or r (2 ^ j)]
  rw [show ((r ||| 2 ^ j : Nat) : Int) = (s : Int) by rw [b_or hr]; omega]
  refine q_istore_n (pc' := 6) (L' := [some (vR b), some (vI (r : Int)), some (vI (j : Int)), some (vI (s : Int))]) (dk_at dkX1_describeSet 5 rfl) (by decide) rfl rfl ?_
  refine q_aload_n (pc' := 7) (dk_at dkX1_describeSet 6 rfl) rfl rfl ?_
  refine r_getf (pc' := 10) fl_RX1_22 (dk_at dkX1_describeSet 7 rfl) hX.obj rfl rfl ?_
  refine q_iload_n (pc' := 11) (dk_at dkX1_describeSet 8 rfl) rfl rfl ?_
  refine q_aload_n (pc' := 12) (dk_at dkX1_describeSet 9 rfl) rfl rfl ?_
  refine r_getf (pc' := 15) fl_RX1_12 (dk_at dkX1_describeSet 10 rfl) hX.obj rfl rfl ?_
  refine r_getf (pc' := 18) fl_RX1_134 (dk_at dkX1_describeSet 11 rfl) hS.obj rfl rfl ?_
  refine q_iconst (pc' := 19) (dk_at dkX1_describeSet 12 rfl) rfl ?_
  refine r_aald1 (pc' := 20) (dk_at dkX1_describeSet 13 rfl) hS.values 0 (by omega) (by omega) (by decide) rfl ?_
  refine q_iload_n (pc' := 21) (dk_at dkX1_describeSet 14 rfl) rfl rfl ?_
  refine r_iald (pc' := 22) (dk_at dkX1_describeSet 15 rfl) (hS.values_at 0 (by omega)) j (by omega) (by omega) (by decide) rfl ?_
  refine r_iast (pc' := 23) (dk_at dkX1_describeSet 16 rfl) hX.familyOf s (by omega) (by omega) (by decide) rfl (fun hh2 ehh2 => ?_)
  have hX := hX.w_familyOf ehh2
  have hS := hS.off ehh2 (by omega)
  have hF := hF.put ehh2 (by omega)
  refine q_aload_n (pc' := 24) (dk_at dkX1_describeSet 17 rfl) rfl rfl ?_
  refine r_getf (pc' := 27) fl_RX1_25 (dk_at dkX1_describeSet 18 rfl) hX.obj rfl rfl ?_
  refine q_iload_n (pc' := 28) (dk_at dkX1_describeSet 19 rfl) rfl rfl ?_
  refine q_aload_n (pc' := 29) (dk_at dkX1_describeSet 20 rfl) rfl rfl ?_
  refine r_getf (pc' := 32) fl_RX1_12 (dk_at dkX1_describeSet 21 rfl) hX.obj rfl rfl ?_
  refine r_getf (pc' := 35) fl_RX1_134 (dk_at dkX1_describeSet 22 rfl) hS.obj rfl rfl ?_
  refine q_iconst (pc' := 36) (dk_at dkX1_describeSet 23 rfl) rfl ?_
  refine r_aald1 (pc' := 37) (dk_at dkX1_describeSet 24 rfl) hS.values 2 (by omega) (by omega) (by decide) rfl ?_
  refine q_iload_n (pc' := 38) (dk_at dkX1_describeSet 25 rfl) rfl rfl ?_
  refine r_iald (pc' := 39) (dk_at dkX1_describeSet 26 rfl) (hS.values_at 2 (by omega)) j (by omega) (by omega) (by decide) rfl ?_
  refine r_iast (pc' := 40) (dk_at dkX1_describeSet 27 rfl) hX.readyOf s (by omega) (by omega) (by decide) rfl (fun hh3 ehh3 => ?_)
  have hX := hX.w_readyOf ehh3
  have hS := hS.off ehh3 (by omega)
  have hF := hF.put ehh3 (by omega)
  refine q_aload_n (pc' := 41) (dk_at dkX1_describeSet 28 rfl) rfl rfl ?_
  refine r_getf (pc' := 44) fl_RX1_28 (dk_at dkX1_describeSet 29 rfl) hX.obj rfl rfl ?_
  refine q_iload_n (pc' := 45) (dk_at dkX1_describeSet 30 rfl) rfl rfl ?_
  refine q_aload_n (pc' := 46) (dk_at dkX1_describeSet 31 rfl) rfl rfl ?_
  refine r_getf (pc' := 49) fl_RX1_12 (dk_at dkX1_describeSet 32 rfl) hX.obj rfl rfl ?_
  refine r_getf (pc' := 52) fl_RX1_134 (dk_at dkX1_describeSet 33 rfl) hS.obj rfl rfl ?_
  refine q_iconst (pc' := 53) (dk_at dkX1_describeSet 34 rfl) rfl ?_
  refine r_aald1 (pc' := 54) (dk_at dkX1_describeSet 35 rfl) hS.values 1 (by omega) (by omega) (by decide) rfl ?_
  refine q_iload_n (pc' := 55) (dk_at dkX1_describeSet 36 rfl) rfl rfl ?_
  refine r_iald (pc' := 56) (dk_at dkX1_describeSet 37 rfl) (hS.values_at 1 (by omega)) j (by omega) (by omega) (by decide) rfl ?_
  refine r_iast (pc' := 57) (dk_at dkX1_describeSet 38 rfl) hX.workOf s (by omega) (by omega) (by decide) rfl (fun hh4 ehh4 => ?_)
  have hX := hX.w_workOf ehh4
  have hS := hS.off ehh4 (by omega)
  have hF := hF.put ehh4 (by omega)
  refine q_iload_n (pc' := 58) (dk_at dkX1_describeSet 39 rfl) rfl rfl ?_
  refine q_if_eq (tgt := 119) (pc' := 61) (dk_at dkX1_describeSet 40 rfl) rfl rfl (by omega) (fun c58 => ?_) (fun c58 => ?_)
  · refine r_vret rfl (dk_at dkX1_describeSet 79 rfl) ?_
    have hr0 : r = 0 := by omega
    have x1 : sfT S.V r S.cnt = 4 := by rw [hr0]; exact sfT_zero _
    have x2 : srT S.V r S.cnt = 0 := by rw [hr0]; exact srT_zero _
    have x3 : swT S.V r S.cnt = 0 := by rw [hr0]; exact swT_zero _
    refine ⟨_, _, _, hX, hS, fun i hi => ⟨?_, ?_, ?_⟩, ⟨?_, ?_, ?_⟩, hF⟩
    · simp only [upz_ne hi]
    · simp only [upz_ne hi]
    · simp only [upz_ne hi]
    · rw [hsf, upz_eq]; first | (rw [if_pos (by omega)]; done) | (rw [if_neg (by omega)]; done)
    · rw [hsr, upz_eq]; omega
    · rw [hsw, upz_eq]; omega
  · have hr0 : r ≠ 0 := by omega
    have hf3 := sfT_le3 hk.v hr0 S.cnt hrc
    obtain ⟨x1, x2, x3⟩ := hfr hr0
    have y1 : upz fa s (S.V 0 j) s = S.V 0 j := upz_eq _ _ _
    have y2 : upz fa s (S.V 0 j) r = fa r := upz_ne (by omega)
    have y3 : upz re s (S.V 2 j) s = S.V 2 j := upz_eq _ _ _
    have y4 : upz re s (S.V 2 j) r = re r := upz_ne (by omega)
    have y5 : upz wo s (S.V 1 j) s = S.V 1 j := upz_eq _ _ _
    have y6 : upz wo s (S.V 1 j) r = wo r := upz_ne (by omega)
    refine q_aload_n (pc' := 62) (dk_at dkX1_describeSet 41 rfl) rfl rfl ?_
    refine r_getf (pc' := 65) fl_RX1_22 (dk_at dkX1_describeSet 42 rfl) hX.obj rfl rfl ?_
    refine q_iload_n (pc' := 66) (dk_at dkX1_describeSet 43 rfl) rfl rfl ?_
    refine r_iald (pc' := 67) (dk_at dkX1_describeSet 44 rfl) hX.familyOf r (by omega) (by omega) (by decide) rfl ?_
    refine q_aload_n (pc' := 68) (dk_at dkX1_describeSet 45 rfl) rfl rfl ?_
    refine r_getf (pc' := 71) fl_RX1_22 (dk_at dkX1_describeSet 46 rfl) hX.obj rfl rfl ?_
    refine q_iload_n (pc' := 72) (dk_at dkX1_describeSet 47 rfl) rfl rfl ?_
    refine r_iald (pc' := 73) (dk_at dkX1_describeSet 48 rfl) hX.familyOf s (by omega) (by omega) (by decide) rfl ?_
    refine q_icmp_eq (tgt := 83) (pc' := 76) (dk_at dkX1_describeSet 49 rfl) rfl rfl (by omega) (by omega) (fun c73 => ?_) (fun c73 => ?_)
    · refine q_aload_n (pc' := 84) (dk_at dkX1_describeSet 55 rfl) rfl rfl ?_
      refine r_getf (pc' := 87) fl_RX1_25 (dk_at dkX1_describeSet 56 rfl) hX.obj rfl rfl ?_
      refine q_iload_n (pc' := 88) (dk_at dkX1_describeSet 57 rfl) rfl rfl ?_
      refine q_aload_n (pc' := 89) (dk_at dkX1_describeSet 58 rfl) rfl rfl ?_
      refine r_getf (pc' := 92) fl_RX1_25 (dk_at dkX1_describeSet 59 rfl) hX.obj rfl rfl ?_
      refine q_iload_n (pc' := 93) (dk_at dkX1_describeSet 60 rfl) rfl rfl ?_
      refine r_iald (pc' := 94) (dk_at dkX1_describeSet 61 rfl) hX.readyOf s (by omega) (by omega) (by decide) rfl ?_
      refine q_aload_n (pc' := 95) (dk_at dkX1_describeSet 62 rfl) rfl rfl ?_
      refine r_getf (pc' := 98) fl_RX1_25 (dk_at dkX1_describeSet 63 rfl) hX.obj rfl rfl ?_
      refine q_iload_n (pc' := 99) (dk_at dkX1_describeSet 64 rfl) rfl rfl ?_
      refine r_iald (pc' := 100) (dk_at dkX1_describeSet 65 rfl) hX.readyOf r (by omega) (by omega) (by decide) rfl ?_
      refine q_max (pc' := 103) jk_RX1_150 (dk_at dkX1_describeSet 66 rfl) (by omega) (by omega) (by omega) (Nat.zero_le _) (Nat.zero_le _) (Nat.le_of_ble_eq_true rfl) rfl ?_
      refine r_iast (pc' := 104) (dk_at dkX1_describeSet 67 rfl) hX.readyOf s (by omega) (by omega) (by decide) rfl (fun hh5 ehh5 => ?_)
      have hX := hX.w_readyOf ehh5
      have hS := hS.off ehh5 (by omega)
      have hF := hF.put ehh5 (by omega)
      refine q_aload_n (pc' := 105) (dk_at dkX1_describeSet 68 rfl) rfl rfl ?_
      refine r_getf (pc' := 108) fl_RX1_28 (dk_at dkX1_describeSet 69 rfl) hX.obj rfl rfl ?_
      refine q_iload_n (pc' := 109) (dk_at dkX1_describeSet 70 rfl) rfl rfl ?_
      refine q_dup2 (pc' := 110) (fun _ => rfl) (fun _ => rfl) (dk_at dkX1_describeSet 71 rfl) rfl ?_
      refine r_iald (pc' := 111) (dk_at dkX1_describeSet 72 rfl) hX.workOf s (by omega) (by omega) (by decide) rfl ?_
      refine q_aload_n (pc' := 112) (dk_at dkX1_describeSet 73 rfl) rfl rfl ?_
      refine r_getf (pc' := 115) fl_RX1_28 (dk_at dkX1_describeSet 74 rfl) hX.obj rfl rfl ?_
      refine q_iload_n (pc' := 116) (dk_at dkX1_describeSet 75 rfl) rfl rfl ?_
      refine r_iald (pc' := 117) (dk_at dkX1_describeSet 76 rfl) hX.workOf r (by omega) (by omega) (by decide) rfl ?_
      refine q_iadd (pc' := 118) (dk_at dkX1_describeSet 77 rfl) rfl ?_
      refine r_iast (pc' := 119) (dk_at dkX1_describeSet 78 rfl) hX.workOf s (by omega) (by omega) (by decide) rfl (fun hh6 ehh6 => ?_)
      have hX := hX.w_workOf ehh6
      have hS := hS.off ehh6 (by omega)
      have hF := hF.put ehh6 (by omega)
      refine r_vret rfl (dk_at dkX1_describeSet 79 rfl) ?_
      refine ⟨_, _, _, hX, hS, fun i hi => ⟨?_, ?_, ?_⟩, ⟨?_, ?_, ?_⟩, hF⟩
      · simp only [upz_ne hi]
      · simp only [upz_ne hi]
      · simp only [upz_ne hi]
      · rw [hsf, upz_eq]; first | (rw [if_pos (by omega)]; done) | (rw [if_neg (by omega)]; done)
      · rw [hsr, upz_eq]; omega
      · rw [hsw, upz_eq]; omega
    · refine q_aload_n (pc' := 77) (dk_at dkX1_describeSet 50 rfl) rfl rfl ?_
      refine r_getf (pc' := 80) fl_RX1_22 (dk_at dkX1_describeSet 51 rfl) hX.obj rfl rfl ?_
      refine q_iload_n (pc' := 81) (dk_at dkX1_describeSet 52 rfl) rfl rfl ?_
      refine q_iconst (pc' := 82) (dk_at dkX1_describeSet 53 rfl) rfl ?_
      refine r_iast (pc' := 83) (dk_at dkX1_describeSet 54 rfl) hX.familyOf s (by omega) (by omega) (by decide) rfl (fun hh7 ehh7 => ?_)
      have hX := hX.w_familyOf ehh7
      have hS := hS.off ehh7 (by omega)
      have hF := hF.put ehh7 (by omega)
      refine q_aload_n (pc' := 84) (dk_at dkX1_describeSet 55 rfl) rfl rfl ?_
      refine r_getf (pc' := 87) fl_RX1_25 (dk_at dkX1_describeSet 56 rfl) hX.obj rfl rfl ?_
      refine q_iload_n (pc' := 88) (dk_at dkX1_describeSet 57 rfl) rfl rfl ?_
      refine q_aload_n (pc' := 89) (dk_at dkX1_describeSet 58 rfl) rfl rfl ?_
      refine r_getf (pc' := 92) fl_RX1_25 (dk_at dkX1_describeSet 59 rfl) hX.obj rfl rfl ?_
      refine q_iload_n (pc' := 93) (dk_at dkX1_describeSet 60 rfl) rfl rfl ?_
      refine r_iald (pc' := 94) (dk_at dkX1_describeSet 61 rfl) hX.readyOf s (by omega) (by omega) (by decide) rfl ?_
      refine q_aload_n (pc' := 95) (dk_at dkX1_describeSet 62 rfl) rfl rfl ?_
      refine r_getf (pc' := 98) fl_RX1_25 (dk_at dkX1_describeSet 63 rfl) hX.obj rfl rfl ?_
      refine q_iload_n (pc' := 99) (dk_at dkX1_describeSet 64 rfl) rfl rfl ?_
      refine r_iald (pc' := 100) (dk_at dkX1_describeSet 65 rfl) hX.readyOf r (by omega) (by omega) (by decide) rfl ?_
      refine q_max (pc' := 103) jk_RX1_150 (dk_at dkX1_describeSet 66 rfl) (by omega) (by omega) (by omega) (Nat.zero_le _) (Nat.zero_le _) (Nat.le_of_ble_eq_true rfl) rfl ?_
      refine r_iast (pc' := 104) (dk_at dkX1_describeSet 67 rfl) hX.readyOf s (by omega) (by omega) (by decide) rfl (fun hh8 ehh8 => ?_)
      have hX := hX.w_readyOf ehh8
      have hS := hS.off ehh8 (by omega)
      have hF := hF.put ehh8 (by omega)
      refine q_aload_n (pc' := 105) (dk_at dkX1_describeSet 68 rfl) rfl rfl ?_
      refine r_getf (pc' := 108) fl_RX1_28 (dk_at dkX1_describeSet 69 rfl) hX.obj rfl rfl ?_
      refine q_iload_n (pc' := 109) (dk_at dkX1_describeSet 70 rfl) rfl rfl ?_
      refine q_dup2 (pc' := 110) (fun _ => rfl) (fun _ => rfl) (dk_at dkX1_describeSet 71 rfl) rfl ?_
      refine r_iald (pc' := 111) (dk_at dkX1_describeSet 72 rfl) hX.workOf s (by omega) (by omega) (by decide) rfl ?_
      refine q_aload_n (pc' := 112) (dk_at dkX1_describeSet 73 rfl) rfl rfl ?_
      refine r_getf (pc' := 115) fl_RX1_28 (dk_at dkX1_describeSet 74 rfl) hX.obj rfl rfl ?_
      refine q_iload_n (pc' := 116) (dk_at dkX1_describeSet 75 rfl) rfl rfl ?_
      refine r_iald (pc' := 117) (dk_at dkX1_describeSet 76 rfl) hX.workOf r (by omega) (by omega) (by decide) rfl ?_
      refine q_iadd (pc' := 118) (dk_at dkX1_describeSet 77 rfl) rfl ?_
      refine r_iast (pc' := 119) (dk_at dkX1_describeSet 78 rfl) hX.workOf s (by omega) (by omega) (by decide) rfl (fun hh9 ehh9 => ?_)
      have hX := hX.w_workOf ehh9
      have hS := hS.off ehh9 (by omega)
      have hF := hF.put ehh9 (by omega)
      refine r_vret rfl (dk_at dkX1_describeSet 79 rfl) ?_
      refine ⟨_, _, _, hX, hS, fun i hi => ⟨?_, ?_, ?_⟩, ⟨?_, ?_, ?_⟩, hF⟩
      · simp only [upz_ne hi]
      · simp only [upz_ne hi]
      · simp only [upz_ne hi]
      · rw [hsf, upz_eq]; first | (rw [if_pos (by omega)]; done) | (rw [if_neg (by omega)]; done)
      · rw [hsr, upz_eq]; omega
      · rw [hsw, upz_eq]; omega

set_option maxHeartbeats 4000000 in
set_option maxRecDepth 100000 in
theorem l_sets1 {d n : Nat} {F : FT} {h : PH} {b : Nat} {S : Shp} {al fi bs fl sc fc : Int} {st fa re wo lg rk ch fo sC sT sX : Nat → Int} {G : Nat → Nat → Int} {j R : Nat} (hd : 2 ≤ d) (hk : Sok S) (hc8 : S.cnt ≤ 8) (hj : j < S.cnt) (hpj : 1 ≤ 2 ^ j ∧ 2 ^ j ≤ 256) (hR : (S.wh = 1 ∧ R = 2 ^ j) ∨ (S.wh ≠ 1 ∧ R = 1)) (hex : ∀ (k : Nat) (st1 fa1 re1 wo1 : Nat → Int) (h1 : PH) (r : Int) (x4 : Option PV), Sets S (2 ^ (j + 1)) k st1 fa1 re1 wo1 → Dall S (2 ^ (j + 1)) fa1 re1 wo1 → isSearch n h1 b al fi bs fl (k : Int) st1 fa1 re1 wo1 G lg rk ch fo fc sC sT sX → isShp n h1 (b + 1) S → Fr h h1 b (b + 31) → QN mX1_fillSets d F 94 [some (vR b), some (vI (j : Int)), some (vI (R : Int)), some (vI r), x4] [] n h1) : ∀ (c : Nat) (r k : Nat) (st1 fa1 re1 wo1 : Nat → Int) (h1 : PH) (x4 : Option PV), (r + c = R) → (Sets S (r + 2 ^ j) k st1 fa1 re1 wo1) → (Dall S (r + 2 ^ j) fa1 re1 wo1) → (isSearch n h1 b al fi bs fl (k : Int) st1 fa1 re1 wo1 G lg rk ch fo fc sC sT sX) → (isShp n h1 (b + 1) S) → (Fr h h1 b (b + 31)) → QN mX1_fillSets d F 38 [some (vR b), some (vI (j : Int)), some (vI (R : Int)), some (vI (r : Int)), x4] [] n h1 := by
  intro c
  induction c with
  | zero =>
    intro r k st1 fa1 re1 wo1 h1 x4 hc hs hD hX hS hF
    refine q_iload_n (pc' := 39) (dk_at dkX1_fillSets 22 rfl) rfl rfl ?_
    refine q_iload_n (pc' := 40) (dk_at dkX1_fillSets 23 rfl) rfl rfl ?_
    refine q_icmp_ge (tgt := 94) (pc' := 43) (dk_at dkX1_fillSets 24 rfl) rfl rfl (by omega) (by omega) (fun c40 => ?_) (fun c40 => ?_)
    · rcases hR with ⟨q1, q2⟩ | ⟨q1, q2⟩
      · refine hex k st1 fa1 re1 wo1 h1 _ _ ?_ ?_ hX hS hF
        · rw [show 2 ^ (j + 1) = r + 2 ^ j by rw [Nat.pow_succ]; omega]; exact hs
        · rw [show 2 ^ (j + 1) = r + 2 ^ j by rw [Nat.pow_succ]; omega]; exact hD
      · rw [show r = 1 by omega] at hs hD
        exact hex k st1 fa1 re1 wo1 h1 _ _ (hs.up (by omega) q1) (hD.up (by omega) q1) hX hS hF
    · exfalso
      omega
  | succ c ih =>
    intro r k st1 fa1 re1 wo1 h1 x4 hc hs hD hX hS hF
    refine q_iload_n (pc' := 39) (dk_at dkX1_fillSets 22 rfl) rfl rfl ?_
    refine q_iload_n (pc' := 40) (dk_at dkX1_fillSets 23 rfl) rfl rfl ?_
    refine q_icmp_ge (tgt := 94) (pc' := 43) (dk_at dkX1_fillSets 24 rfl) rfl rfl (by omega) (by omega) (fun c40 => ?_) (fun c40 => ?_)
    · rcases hR with ⟨q1, q2⟩ | ⟨q1, q2⟩
      · refine hex k st1 fa1 re1 wo1 h1 _ _ ?_ ?_ hX hS hF
        · rw [show 2 ^ (j + 1) = r + 2 ^ j by rw [Nat.pow_succ]; omega]; exact hs
        · rw [show 2 ^ (j + 1) = r + 2 ^ j by rw [Nat.pow_succ]; omega]; exact hD
      · rw [show r = 1 by omega] at hs hD
        exact hex k st1 fa1 re1 wo1 h1 _ _ (hs.up (by omega) q1) (hD.up (by omega) q1) hX hS hF
    · have hrp : r < 2 ^ j := by have := nt_pow_r (j := j) (by omega); omega
      have hpow : pw2 (2 ^ j) = true := pw2_pow (by omega)
      have hwp : S.wh = 1 ∨ pw2 (r + 2 ^ j) = true := by
        rcases hR with ⟨q1, q2⟩ | ⟨q1, q2⟩
        · exact Or.inl q1
        · right; rw [show r = 0 by omega, Nat.zero_add]; exact hpow
      have hDr : r ≠ 0 → DsP S r fa1 re1 wo1 := fun z => hD r z (by omega) (by rcases hR with ⟨q1, q2⟩ | ⟨q1, q2⟩; exact Or.inl q1; omega)
      have p2 : 2 ^ (j + 1) ≤ 256 := (nt_pow_r (j := j + 1) (by omega)).2
      rw [Nat.pow_succ] at p2
      have hkl := scT_le S (r + 2 ^ j)
      rw [← hs.1] at hkl
      refine q_aload_n (pc' := 44) (dk_at dkX1_fillSets 25 rfl) rfl rfl ?_
      refine q_iload_n (pc' := 45) (dk_at dkX1_fillSets 26 rfl) rfl rfl ?_
      refine q_iload_n (pc' := 46) (dk_at dkX1_fillSets 27 rfl) rfl rfl ?_
      refine r_cVV (pc' := 49) (As := [vI (r : Int), vI (j : Int)]) (S := []) cv_RX1_146 (dk_at dkX1_fillSets 28 rfl) hX.obj rfl (k_Search_describeSet (d := 1) (r := r) (j := j) (s := r + 2 ^ j) (by omega) hk hj (by omega) rfl hDr hS hX) (by omega) (Nat.zero_le _) (Nat.zero_le _) rfl (Nat.le_of_ble_eq_true rfl) rfl (Nat.le_of_ble_eq_true rfl) rfl (fun hh2 hphh2 => ?_)
      obtain ⟨fa2, re2, wo2, hX, hS, hne, hds, hG⟩ := hphh2
      have hF := hF.tr hG (by omega)
      refine q_iload_n (pc' := 50) (dk_at dkX1_fillSets 29 rfl) rfl rfl ?_
      refine q_iconst (pc' := 51) (dk_at dkX1_fillSets 30 rfl) rfl ?_
      refine q_iload_n (pc' := 52) (dk_at dkX1_fillSets 31 rfl) rfl rfl ?_
      refine q_ishl (pc' := 53) (dk_at dkX1_fillSets 32 rfl) (by omega) (by omega) rfl ?_
      have bb3 := nt_pow_r (j := j) (by omega)
      rw [show ((1 : Int) * 2 ^ ((j : Int)).toNat) = ((2 ^ j : Nat) : Int) from nt_shl1 j]
      refine q_ior (pc' := 54) (dk_at dkX1_fillSets 33 rfl) (by omega) (by omega) rfl ?_
      rw [show ((((r : Int)).toNat ||| (((2 ^ j : Nat) : Int)).toNat : Nat) : Int) = ((r ||| (2 ^ j) : Nat) : Int) from nt_or r (2 ^ j)]
      rw [show ((r ||| 2 ^ j : Nat) : Int) = ((r + 2 ^ j : Nat) : Int) by rw [b_or (by omega)]]
      refine q_istore (pc' := 56) (L' := [some (vR b), some (vI (j : Int)), some (vI (R : Int)), some (vI (r : Int)), some (vI ((r + 2 ^ j : Nat) : Int))]) (dk_at dkX1_fillSets 34 rfl) (by decide) rfl rfl ?_
      have hfv : -1 ≤ fa2 (r + 2 ^ j) ∧ fa2 (r + 2 ^ j) ≤ 4 := by rw [hds.1]; exact sfT_r hk.v _ _
      refine q_aload_n (pc' := 57) (dk_at dkX1_fillSets 35 rfl) rfl rfl ?_
      refine r_getf (pc' := 60) fl_RX1_22 (dk_at dkX1_fillSets 36 rfl) hX.obj rfl rfl ?_
      refine q_iload (pc' := 62) (dk_at dkX1_fillSets 37 rfl) rfl rfl ?_
      refine r_iald (pc' := 63) (dk_at dkX1_fillSets 38 rfl) hX.familyOf (r + 2 ^ j) (by omega) (by omega) (by decide) rfl ?_
      refine q_iconst (pc' := 64) (dk_at dkX1_fillSets 39 rfl) rfl ?_
      refine q_icmp_eq (tgt := 88) (pc' := 67) (dk_at dkX1_fillSets 40 rfl) rfl rfl (by omega) (by omega) (fun c64 => ?_) (fun c64 => ?_)
      · refine q_iinc (pc' := 91) (L' := [some (vR b), some (vI (j : Int)), some (vI (R : Int)), some (vI ((r : Int) + 1)), some (vI ((r + 2 ^ j : Nat) : Int))]) (dk_at dkX1_fillSets 53 rfl) (by decide) rfl rfl rfl ?_
        rw [show ((r : Int) + 1) = ((r + 1 : Nat) : Int) by omega]
        refine q_goto (tgt := 38) (dk_at dkX1_fillSets 54 rfl) rfl ?_
        have h0 : (r + 2 ^ j != 0) = true := by rw [bne_iff_ne]; omega
        have hwb : (decide (S.wh = 1) || pw2 (r + 2 ^ j)) = true := by rcases hwp with q | q; rw [decide_eq_true q]; rfl; rw [q, Bool.or_true]
        have hok : okS S (r + 2 ^ j) = false := by unfold okS; rw [h0, hwb, decide_eq_false (by rw [← hds.1]; omega)]; rfl
        exact ih (r + 1) k _ _ _ _ _ _ (by omega) (by rw [show r + 1 + 2 ^ j = r + 2 ^ j + 1 by omega]; exact hs.no hne hok) (by rw [show r + 1 + 2 ^ j = r + 2 ^ j + 1 by omega]; exact hD.step hne hds) hX hS hF
      · refine q_aload_n (pc' := 68) (dk_at dkX1_fillSets 41 rfl) rfl rfl ?_
        refine r_getf (pc' := 71) fl_RX1_18 (dk_at dkX1_fillSets 42 rfl) hX.obj rfl rfl ?_
        refine q_aload_n (pc' := 72) (dk_at dkX1_fillSets 43 rfl) rfl rfl ?_
        refine r_getf (pc' := 75) fl_RX1_143 (dk_at dkX1_fillSets 44 rfl) hX.obj rfl rfl ?_
        refine q_iload (pc' := 77) (dk_at dkX1_fillSets 45 rfl) rfl rfl ?_
        refine r_iast (pc' := 78) (dk_at dkX1_fillSets 46 rfl) hX.sets k (by omega) (by omega) (by decide) rfl (fun hh4 ehh4 => ?_)
        have hX := hX.w_sets ehh4
        have hS := hS.off ehh4 (by omega)
        have hF := hF.put ehh4 (by omega)
        refine q_aload_n (pc' := 79) (dk_at dkX1_fillSets 47 rfl) rfl rfl ?_
        refine q_dup (pc' := 80) (fun _ => rfl) (dk_at dkX1_fillSets 48 rfl) rfl ?_
        refine r_getf (pc' := 83) fl_RX1_143 (dk_at dkX1_fillSets 49 rfl) hX.obj rfl rfl ?_
        refine q_iconst (pc' := 84) (dk_at dkX1_fillSets 50 rfl) rfl ?_
        refine q_iadd (pc' := 85) (dk_at dkX1_fillSets 51 rfl) rfl ?_
        refine r_putf (pc' := 88) fp_RX1_143 (dk_at dkX1_fillSets 52 rfl) hX.obj (Nat.le_of_ble_eq_true rfl) (PT_int _) rfl (fun hh5 ehh5 => ?_)
        have hX := hX.w_obj ehh5
        have hS := hS.off ehh5 (by omega)
        have hF := hF.put ehh5 (by omega)
        refine q_iinc (pc' := 91) (L' := [some (vR b), some (vI (j : Int)), some (vI (R : Int)), some (vI ((r : Int) + 1)), some (vI ((r + 2 ^ j : Nat) : Int))]) (dk_at dkX1_fillSets 53 rfl) (by decide) rfl rfl rfl ?_
        rw [show ((r : Int) + 1) = ((r + 1 : Nat) : Int) by omega]
        refine q_goto (tgt := 38) (dk_at dkX1_fillSets 54 rfl) rfl ?_
        have h0 : (r + 2 ^ j != 0) = true := by rw [bne_iff_ne]; omega
        have hwb : (decide (S.wh = 1) || pw2 (r + 2 ^ j)) = true := by rcases hwp with q | q; rw [decide_eq_true q]; rfl; rw [q, Bool.or_true]
        have hok : okS S (r + 2 ^ j) = true := by unfold okS; rw [h0, hwb, decide_eq_true (by rw [← hds.1]; omega)]; rfl
        rw [show ((k : Int) + 1) = ((k + 1 : Nat) : Int) by omega] at hX
        exact ih (r + 1) (k + 1) _ _ _ _ _ _ (by omega) (by rw [show r + 1 + 2 ^ j = r + 2 ^ j + 1 by omega]; exact hs.yes hne hds hok) (by rw [show r + 1 + 2 ^ j = r + 2 ^ j + 1 by omega]; exact hD.step hne hds) hX hS hF

set_option maxHeartbeats 4000000 in
set_option maxRecDepth 100000 in
theorem l_sets2 {d n : Nat} {h : PH} {b : Nat} {S : Shp} {al fi bs fl sc fc : Int} {st fa re wo lg rk ch fo sC sT sX : Nat → Int} {G : Nat → Nat → Int} (hd : 2 ≤ d) (hk : Sok S) (hw : S.wh = 0 ∨ S.wh = 1) (hc8 : S.cnt ≤ 8) : ∀ (c : Nat) (j k : Nat) (st1 fa1 re1 wo1 : Nat → Int) (h1 : PH) (x2 x3 x4 : Option PV), (j + c = S.cnt) → (Sets S (2 ^ j) k st1 fa1 re1 wo1) → (Dall S (2 ^ j) fa1 re1 wo1) → (isSearch n h1 b al fi bs fl (k : Int) st1 fa1 re1 wo1 G lg rk ch fo fc sC sT sX) → (isShp n h1 (b + 1) S) → (Fr h h1 b (b + 31)) → QN mX1_fillSets d (FV n (fun h' => ∃ (k : Nat) (st1 fa1 re1 wo1 : Nat → Int), isSearch n h' b al fi bs fl (k : Int) st1 fa1 re1 wo1 G lg rk ch fo fc sC sT sX ∧ isShp n h' (b + 1) S ∧ Sets S (2 ^ S.cnt) k st1 fa1 re1 wo1 ∧ Fr h h' b (b + 31))) 7 [some (vR b), some (vI (j : Int)), x2, x3, x4] [] n h1 := by
  intro c
  induction c with
  | zero =>
    intro j k st1 fa1 re1 wo1 h1 x2 x3 x4 hc hs hD hX hS hF
    refine q_iload_n (pc' := 8) (dk_at dkX1_fillSets 5 rfl) rfl rfl ?_
    refine q_aload_n (pc' := 9) (dk_at dkX1_fillSets 6 rfl) rfl rfl ?_
    refine r_getf (pc' := 12) fl_RX1_12 (dk_at dkX1_fillSets 7 rfl) hX.obj rfl rfl ?_
    refine r_getf (pc' := 15) fl_RX1_76 (dk_at dkX1_fillSets 8 rfl) hS.obj rfl rfl ?_
    refine q_icmp_ge (tgt := 100) (pc' := 18) (dk_at dkX1_fillSets 9 rfl) rfl rfl (by omega) (by omega) (fun c15 => ?_) (fun c15 => ?_)
    · refine r_vret rfl (dk_at dkX1_fillSets 57 rfl) ?_
      rw [show j = S.cnt by omega] at hs
      exact ⟨k, st1, fa1, re1, wo1, hX, hS, hs, hF⟩
    · exfalso
      omega
  | succ c ih =>
    intro j k st1 fa1 re1 wo1 h1 x2 x3 x4 hc hs hD hX hS hF
    refine q_iload_n (pc' := 8) (dk_at dkX1_fillSets 5 rfl) rfl rfl ?_
    refine q_aload_n (pc' := 9) (dk_at dkX1_fillSets 6 rfl) rfl rfl ?_
    refine r_getf (pc' := 12) fl_RX1_12 (dk_at dkX1_fillSets 7 rfl) hX.obj rfl rfl ?_
    refine r_getf (pc' := 15) fl_RX1_76 (dk_at dkX1_fillSets 8 rfl) hS.obj rfl rfl ?_
    refine q_icmp_ge (tgt := 100) (pc' := 18) (dk_at dkX1_fillSets 9 rfl) rfl rfl (by omega) (by omega) (fun c15 => ?_) (fun c15 => ?_)
    · refine r_vret rfl (dk_at dkX1_fillSets 57 rfl) ?_
      rw [show j = S.cnt by omega] at hs
      exact ⟨k, st1, fa1, re1, wo1, hX, hS, hs, hF⟩
    · refine q_aload_n (pc' := 19) (dk_at dkX1_fillSets 10 rfl) rfl rfl ?_
      refine r_getf (pc' := 22) fl_RX1_12 (dk_at dkX1_fillSets 11 rfl) hX.obj rfl rfl ?_
      refine r_getf (pc' := 25) fl_RX1_118 (dk_at dkX1_fillSets 12 rfl) hS.obj rfl rfl ?_
      refine q_if_eq (tgt := 34) (pc' := 28) (dk_at dkX1_fillSets 13 rfl) rfl rfl (by omega) (fun c25 => ?_) (fun c25 => ?_)
      · refine q_iconst (pc' := 35) (dk_at dkX1_fillSets 18 rfl) rfl ?_
        refine q_istore_n (pc' := 36) (L' := [some (vR b), some (vI (j : Int)), some (vI 1), x3, x4]) (dk_at dkX1_fillSets 19 rfl) (by decide) rfl rfl ?_
        refine q_iconst (pc' := 37) (dk_at dkX1_fillSets 20 rfl) rfl ?_
        refine q_istore_n (pc' := 38) (L' := [some (vR b), some (vI (j : Int)), some (vI 1), some (vI 0), x4]) (dk_at dkX1_fillSets 21 rfl) (by decide) rfl rfl ?_
        refine l_sets1 (h := h) (sc := sc) (st := st) (fa := fa) (re := re) (wo := wo) (R := 1) hd hk hc8 (by omega) (nt_pow_r (by omega)) (by omega) ?_ 1 0 k st1 fa1 re1 wo1 h1 _ (by omega) (by rw [Nat.zero_add]; exact hs) (by rw [Nat.zero_add]; exact hD) hX hS hF
        intro k2 st2 fa2 re2 wo2 h2 r x5 hs2 hD2 hX hS hF
        refine q_iinc (pc' := 97) (L' := [some (vR b), some (vI ((j : Int) + 1)), some (vI 1), some (vI r), x5]) (dk_at dkX1_fillSets 55 rfl) (by decide) rfl rfl rfl ?_
        rw [show ((j : Int) + 1) = ((j + 1 : Nat) : Int) by omega]
        refine q_goto (tgt := 7) (dk_at dkX1_fillSets 56 rfl) rfl ?_
        exact ih (j + 1) k2 _ _ _ _ _ _ _ _ (by omega) hs2 hD2 hX hS hF
      · refine q_iconst (pc' := 29) (dk_at dkX1_fillSets 14 rfl) rfl ?_
        refine q_iload_n (pc' := 30) (dk_at dkX1_fillSets 15 rfl) rfl rfl ?_
        refine q_ishl (pc' := 31) (dk_at dkX1_fillSets 16 rfl) (by omega) (by omega) rfl ?_
        have bb1 := nt_pow_r (j := j) (by omega)
        rw [show ((1 : Int) * 2 ^ ((j : Int)).toNat) = ((2 ^ j : Nat) : Int) from nt_shl1 j]
        refine q_goto (tgt := 35) (dk_at dkX1_fillSets 17 rfl) rfl ?_
        refine q_istore_n (pc' := 36) (L' := [some (vR b), some (vI (j : Int)), some (vI ((2 ^ j : Nat) : Int)), x3, x4]) (dk_at dkX1_fillSets 19 rfl) (by decide) rfl rfl ?_
        refine q_iconst (pc' := 37) (dk_at dkX1_fillSets 20 rfl) rfl ?_
        refine q_istore_n (pc' := 38) (L' := [some (vR b), some (vI (j : Int)), some (vI ((2 ^ j : Nat) : Int)), some (vI 0), x4]) (dk_at dkX1_fillSets 21 rfl) (by decide) rfl rfl ?_
        refine l_sets1 (h := h) (sc := sc) (st := st) (fa := fa) (re := re) (wo := wo) (R := (2 ^ j)) hd hk hc8 (by omega) (nt_pow_r (by omega)) (by omega) ?_ (2 ^ j) 0 k st1 fa1 re1 wo1 h1 _ (by omega) (by rw [Nat.zero_add]; exact hs) (by rw [Nat.zero_add]; exact hD) hX hS hF
        intro k2 st2 fa2 re2 wo2 h2 r x5 hs2 hD2 hX hS hF
        refine q_iinc (pc' := 97) (L' := [some (vR b), some (vI ((j : Int) + 1)), some (vI ((2 ^ j : Nat) : Int)), some (vI r), x5]) (dk_at dkX1_fillSets 55 rfl) (by decide) rfl rfl rfl ?_
        rw [show ((j : Int) + 1) = ((j + 1 : Nat) : Int) by omega]
        refine q_goto (tgt := 7) (dk_at dkX1_fillSets 56 rfl) rfl ?_
        exact ih (j + 1) k2 _ _ _ _ _ _ _ _ (by omega) hs2 hD2 hX hS hF

set_option maxHeartbeats 4000000 in
set_option maxRecDepth 100000 in
theorem k_Search_fillSets {d n : Nat} {h : PH} {b : Nat} {S : Shp} {al fi bs fl sc fc : Int} {st fa re wo lg rk ch fo sC sT sX : Nat → Int} {G : Nat → Nat → Int} (hd : 2 ≤ d) (hk : Sok S) (hS : isShp n h (b + 1) S) (hX : isSearch n h b al fi bs fl sc st fa re wo G lg rk ch fo fc sC sT sX) : CtrV mX1_fillSets d [vR b] n h (fun h' => ∃ (k : Nat) (st1 fa1 re1 wo1 : Nat → Int), isSearch n h' b al fi bs fl (k : Int) st1 fa1 re1 wo1 G lg rk ch fo fc sC sT sX ∧ isShp n h' (b + 1) S ∧ Sets S (2 ^ S.cnt) k st1 fa1 re1 wo1 ∧ Fr h h' b (b + 31)) := by
  have hF : Fr h h b (b + 31) := Fr.rf
  refine q_beginV (L := [some (vR b), none, none, none, none]) rfl ?_
  refine q_aload_n (pc' := 1) (dk_at dkX1_fillSets 0 rfl) rfl rfl ?_
  refine q_iconst (pc' := 2) (dk_at dkX1_fillSets 1 rfl) rfl ?_
  refine r_putf (pc' := 5) fp_RX1_143 (dk_at dkX1_fillSets 2 rfl) hX.obj (Nat.le_of_ble_eq_true rfl) (PT_int _) rfl (fun hh1 ehh1 => ?_)
  have hX := hX.w_obj ehh1
  have hS := hS.off ehh1 (by omega)
  have hF := hF.put ehh1 (by omega)
  refine q_iconst (pc' := 6) (dk_at dkX1_fillSets 3 rfl) rfl ?_
  refine q_istore_n (pc' := 7) (L' := [some (vR b), some (vI 0), none, none, none]) (dk_at dkX1_fillSets 4 rfl) (by decide) rfl rfl ?_
  exact l_sets2 (h := h) (sc := sc) (st := st) (fa := fa) (re := re) (wo := wo) hd hk hk.w hk.c S.cnt 0 0 st fa re wo _ none none none (by omega) ⟨rfl, fun s hs hok => by rw [show s = 0 by rw [Nat.pow_zero] at hs; omega] at hok; exact absurd hok (by rw [show okS S 0 = false from rfl]; decide)⟩ (fun s h0 hs _ => by rw [Nat.pow_zero] at hs; omega) hX hS hF
