/-! ALL JOBS BUT ONE: the sets of the shop without a job as sets of the shop that hold it already -/
def insB (j s : Nat) : Nat := 2 ^ (j + 1) * (s / 2 ^ j) + s % 2 ^ j
def delB (j t : Nat) : Nat := 2 ^ j * (t / 2 ^ (j + 1)) + t % 2 ^ j
def skB (j i : Nat) : Nat := if i < j then i else i + 1
theorem insB_bit (j s i : Nat) : (insB j s).testBit i = if i < j then s.testBit i else if i = j then false else s.testBit (i - 1) := by
  unfold insB
  have h : s % 2 ^ j < 2 ^ (j + 1) := Nat.lt_of_lt_of_le (Nat.mod_lt _ Nat.one_le_two_pow) (Nat.pow_le_pow_right (by decide) (by omega))
  rw [Nat.testBit_two_pow_mul_add _ h, Nat.testBit_mod_two_pow, Nat.testBit_div_two_pow]
  by_cases p : i < j
  · rw [if_pos (by omega), if_pos p, decide_eq_true p, Bool.true_and]
  · by_cases q : i = j
    · rw [if_pos (by omega), if_neg p, if_pos q, decide_eq_false p, Bool.false_and]
    · rw [if_neg (by omega), if_neg p, if_neg q, show i - (j + 1) + j = i - 1 by omega]
theorem delB_bit (j t i : Nat) : (delB j t).testBit i = t.testBit (skB j i) := by
  unfold delB skB
  have h : t % 2 ^ j < 2 ^ j := Nat.mod_lt _ Nat.one_le_two_pow
  rw [Nat.testBit_two_pow_mul_add _ h, Nat.testBit_mod_two_pow, Nat.testBit_div_two_pow]
  by_cases p : i < j
  · rw [if_pos p, if_pos p, decide_eq_true p, Bool.true_and]
  · rw [if_neg p, if_neg p, show i - j + (j + 1) = i + 1 by omega]
theorem insB_sk (j s i : Nat) : (insB j s).testBit (skB j i) = s.testBit i := by
  rw [insB_bit]
  unfold skB
  by_cases p : i < j
  · rw [if_pos p, if_pos p]
  · rw [if_neg p, if_neg (by omega), if_neg (by omega), show i + 1 - 1 = i by omega]
theorem insB_at (j s : Nat) : (insB j s).testBit j = false := by
  rw [insB_bit, if_neg (by omega), if_pos rfl]
theorem insB_b (j s i : Nat) : (insB j s / 2 ^ skB j i % 2 = 1) ↔ (s / 2 ^ i % 2 = 1) := by
  rw [b_bit, b_bit, insB_sk]
theorem insB_nb (j s : Nat) : ¬ (insB j s / 2 ^ j % 2 = 1) := by
  rw [b_bit, insB_at]; decide
theorem ins_del {j t : Nat} (h : ¬ t / 2 ^ j % 2 = 1) : insB j (delB j t) = t := by
  apply Nat.eq_of_testBit_eq
  intro i
  rw [b_bit, Bool.not_eq_true] at h
  rw [insB_bit, delB_bit, delB_bit]
  unfold skB
  by_cases p : i < j
  · rw [if_pos p, if_pos p]
  · by_cases q : i = j
    · rw [if_neg p, if_pos q, q, h]
    · rw [if_neg p, if_neg q, if_neg (by omega), show i - 1 + 1 = i by omega]
theorem bit_lt {x c : Nat} (h : ∀ i, c ≤ i → x.testBit i = false) : x < 2 ^ c := by
  rcases Nat.lt_or_ge x (2 ^ c) with q | q
  · exact q
  · obtain ⟨i, h1, h2⟩ := Nat.exists_ge_and_testBit_of_ge_two_pow q
    rw [h i h1] at h2
    exact absurd h2 (by decide)
theorem lt_bit {x c i : Nat} (h : x < 2 ^ c) (hi : c ≤ i) : x.testBit i = false := Nat.testBit_lt_two_pow (Nat.lt_of_lt_of_le h (Nat.pow_le_pow_right (by decide) hi))
theorem insB_lt {j s c : Nat} (hj : j ≤ c) (hs : s < 2 ^ c) : insB j s < 2 ^ (c + 1) := bit_lt (fun i hi => by
  rw [insB_bit, if_neg (by omega), if_neg (by omega)]
  exact lt_bit hs (by omega))
theorem delB_lt {j t c : Nat} (hj : j ≤ c) (ht : t < 2 ^ (c + 1)) : delB j t < 2 ^ c := bit_lt (fun i hi => by
  rw [delB_bit]
  unfold skB
  rw [if_neg (by omega)]
  exact lt_bit ht (by omega))
/-- the set in the larger shop -/
def upB (j s : Nat) : Nat := insB j s ||| 2 ^ j
theorem upB_bit (j s i : Nat) : (upB j s).testBit i = if i = j then true else (insB j s).testBit i := by
  unfold upB
  rw [Nat.testBit_or, Nat.testBit_two_pow]
  by_cases q : j = i
  · rw [decide_eq_true q, Bool.or_true, if_pos q.symm]
  · rw [decide_eq_false q, Bool.or_false, if_neg (fun e => q e.symm)]
theorem upB_sk (j s i : Nat) : (upB j s).testBit (skB j i) = s.testBit i := by
  rw [upB_bit, insB_sk, if_neg]
  unfold skB
  split <;> omega
theorem upB_or (j a b : Nat) : upB j a ||| insB j b = upB j (a ||| b) := by
  apply Nat.eq_of_testBit_eq
  intro i
  rw [Nat.testBit_or, upB_bit, upB_bit, insB_bit, insB_bit, insB_bit]
  by_cases q : i = j
  · simp only [if_pos q, Bool.true_or]
  · by_cases p : i < j
    · simp only [if_pos p, if_neg q, Nat.testBit_or]
    · simp only [if_neg p, if_neg q, Nat.testBit_or]
theorem upB_dis (j s dn : Nat) : (insB j s &&& upB j dn = 0) ↔ (s &&& dn = 0) := by
  constructor
  · intro h
    apply Nat.eq_of_testBit_eq
    intro i
    have := congrArg (fun z => z.testBit (skB j i)) h
    rw [Nat.testBit_and, insB_sk, upB_sk, Nat.zero_testBit] at this
    rw [Nat.testBit_and, Nat.zero_testBit]
    exact this
  · intro h
    apply Nat.eq_of_testBit_eq
    intro i
    rw [Nat.testBit_and, Nat.zero_testBit, upB_bit, insB_bit, insB_bit]
    by_cases q : i = j
    · rw [if_neg (by omega), if_pos q, Bool.false_and]
    · by_cases p : i < j
      · have := congrArg (fun z => z.testBit i) h
        rw [Nat.testBit_and, Nat.zero_testBit] at this
        simp only [if_pos p, if_neg q]
        exact this
      · have := congrArg (fun z => z.testBit (i - 1)) h
        rw [Nat.testBit_and, Nat.zero_testBit] at this
        simp only [if_neg p, if_neg q]
        exact this
theorem upB_lt {j s c : Nat} (hj : j ≤ c) (hs : s < 2 ^ c) : upB j s < 2 ^ (c + 1) := or_lt (insB_lt hj hs) (Nat.pow_lt_pow_right (by decide) (by omega))
theorem upB_all {j dn c : Nat} (hj : j ≤ c) : (upB j dn = 2 ^ (c + 1) - 1) ↔ (dn = 2 ^ c - 1) := by
  constructor
  · intro h
    apply Nat.eq_of_testBit_eq
    intro i
    have := congrArg (fun z => z.testBit (skB j i)) h
    rw [upB_sk, Nat.testBit_two_pow_sub_one] at this
    rw [this, Nat.testBit_two_pow_sub_one]
    unfold skB
    by_cases p : i < j
    · rw [if_pos p, decide_eq_true (by omega), decide_eq_true (by omega)]
    · rw [if_neg p]
      by_cases q : i < c
      · rw [decide_eq_true q, decide_eq_true (by omega)]
      · rw [decide_eq_false q, decide_eq_false (by omega)]
  · intro h
    apply Nat.eq_of_testBit_eq
    intro i
    rw [h, Nat.testBit_two_pow_sub_one, upB_bit, insB_bit, Nat.testBit_two_pow_sub_one, Nat.testBit_two_pow_sub_one]
    by_cases q : i = j
    · rw [if_pos q, decide_eq_true (by omega)]
    · rw [if_neg q]
      by_cases p : i < j
      · rw [if_pos p, decide_eq_true (by omega), decide_eq_true (by omega)]
      · rw [if_neg p, if_neg q]
        by_cases r : i < c + 1
        · rw [decide_eq_true r, decide_eq_true (by omega)]
        · rw [decide_eq_false r, decide_eq_false (by omega)]
/-! what sets say -/
def upC (j c : Nat) : Nat := if c ≤ j then c else c + 1
theorem sf_ins {V V' : Nat → Nat → Int} {j s : Nat} : ∀ c, (∀ i, i < c → V' 0 i = V 0 (skB j i)) → sfT V' s c = sfT V (insB j s) (upC j c)
  | 0, _ => by unfold upC; rw [if_pos (Nat.zero_le _)]; rfl
  | c + 1, h => by
    have ih := sf_ins (s := s) c (fun i hi => h i (by omega))
    have e := h c (by omega)
    have hb := insB_b j s c
    unfold upC at ih ⊢
    unfold skB at e hb
    rw [sfT_s, ih, e]
    by_cases p : c < j
    · rw [if_pos p] at hb ⊢
      rw [if_pos (show c ≤ j by omega), if_pos (show c + 1 ≤ j by omega), sfT_s]
      by_cases q : s / 2 ^ c % 2 = 1
      · rw [if_pos q, if_pos (hb.mpr q)]
      · rw [if_neg q, if_neg (fun z => q (hb.mp z))]
    · rw [if_neg p] at hb ⊢
      have e2 : sfT V (insB j s) (if c ≤ j then c else c + 1) = sfT V (insB j s) (c + 1) := by
        by_cases q : c = j
        · rw [if_pos (by omega), sfT_s, if_neg (by rw [q]; exact insB_nb j s)]
        · rw [if_neg (by omega)]
      rw [e2, if_neg (show ¬ c + 1 ≤ j by omega), sfT_s (j := c + 1)]
      by_cases q : s / 2 ^ c % 2 = 1
      · rw [if_pos q, if_pos (hb.mpr q)]
      · rw [if_neg q, if_neg (fun z => q (hb.mp z))]
theorem sr_ins {V V' : Nat → Nat → Int} {j s : Nat} : ∀ c, (∀ i, i < c → V' 2 i = V 2 (skB j i)) → srT V' s c = srT V (insB j s) (upC j c)
  | 0, _ => by unfold upC; rw [if_pos (Nat.zero_le _)]; rfl
  | c + 1, h => by
    have ih := sr_ins (s := s) c (fun i hi => h i (by omega))
    have e := h c (by omega)
    have hb := insB_b j s c
    unfold upC at ih ⊢
    unfold skB at e hb
    rw [srT_s, ih, e]
    by_cases p : c < j
    · rw [if_pos p] at hb ⊢
      rw [if_pos (show c ≤ j by omega), if_pos (show c + 1 ≤ j by omega), srT_s]
      by_cases q : s / 2 ^ c % 2 = 1
      · rw [if_pos q, if_pos (hb.mpr q)]
      · rw [if_neg q, if_neg (fun z => q (hb.mp z))]
    · rw [if_neg p] at hb ⊢
      have e2 : srT V (insB j s) (if c ≤ j then c else c + 1) = srT V (insB j s) (c + 1) := by
        by_cases q : c = j
        · rw [if_pos (by omega), srT_s, if_neg (by rw [q]; exact insB_nb j s)]
        · rw [if_neg (by omega)]
      rw [e2, if_neg (show ¬ c + 1 ≤ j by omega), srT_s (j := c + 1)]
      by_cases q : s / 2 ^ c % 2 = 1
      · rw [if_pos q, if_pos (hb.mpr q)]
      · rw [if_neg q, if_neg (fun z => q (hb.mp z))]
theorem sw_ins {V V' : Nat → Nat → Int} {j s : Nat} : ∀ c, (∀ i, i < c → V' 1 i = V 1 (skB j i)) → swT V' s c = swT V (insB j s) (upC j c)
  | 0, _ => by unfold upC; rw [if_pos (Nat.zero_le _)]; rfl
  | c + 1, h => by
    have ih := sw_ins (s := s) c (fun i hi => h i (by omega))
    have e := h c (by omega)
    have hb := insB_b j s c
    unfold upC at ih ⊢
    unfold skB at e hb
    rw [swT_s, ih, e]
    by_cases p : c < j
    · rw [if_pos p] at hb ⊢
      rw [if_pos (show c ≤ j by omega), if_pos (show c + 1 ≤ j by omega), swT_s]
      by_cases q : s / 2 ^ c % 2 = 1
      · rw [if_pos q, if_pos (hb.mpr q)]
      · rw [if_neg q, if_neg (fun z => q (hb.mp z))]
    · rw [if_neg p] at hb ⊢
      have e2 : swT V (insB j s) (if c ≤ j then c else c + 1) = swT V (insB j s) (c + 1) := by
        by_cases q : c = j
        · rw [if_pos (by omega), swT_s, if_neg (by rw [q]; exact insB_nb j s)]
        · rw [if_neg (by omega)]
      rw [e2, if_neg (show ¬ c + 1 ≤ j by omega), swT_s (j := c + 1)]
      by_cases q : s / 2 ^ c % 2 = 1
      · rw [if_pos q, if_pos (hb.mpr q)]
      · rw [if_neg q, if_neg (fun z => q (hb.mp z))]
theorem sm_ins {S S' : Shp} (ho : S'.ob = S.ob) {j s : Nat} {en x : Int} : ∀ c, (∀ i, i < c → S'.V 3 i = S.V 3 (skB j i) ∧ S'.V 4 i = S.V 4 (skB j i)) → smT S' s en x c = smT S (insB j s) en x (upC j c)
  | 0, _ => by unfold upC; rw [if_pos (Nat.zero_le _)]; rfl
  | c + 1, h => by
    have ih := sm_ins ho (s := s) (en := en) (x := x) c (fun i hi => h i (by omega))
    have e := h c (by omega)
    have ep : pen S' c en = pen S (skB j c) en := by unfold pen penz; rw [e.1, e.2, ho]
    have ej : ∀ a b, jn S' a b = jn S a b := fun a b => by unfold jn; rw [ho]
    have hb := insB_b j s c
    unfold upC at ih ⊢
    unfold skB at ep hb
    rw [smT_s, ih, ej, ep]
    by_cases p : c < j
    · rw [if_pos p] at hb ⊢
      rw [if_pos (show c ≤ j by omega), if_pos (show c + 1 ≤ j by omega), smT_s]
      by_cases q : s / 2 ^ c % 2 = 1
      · rw [if_pos q, if_pos (hb.mpr q)]
      · rw [if_neg q, if_neg (fun z => q (hb.mp z))]
    · rw [if_neg p] at hb ⊢
      have e2 : smT S (insB j s) en x (if c ≤ j then c else c + 1) = smT S (insB j s) en x (c + 1) := by
        by_cases q : c = j
        · rw [if_pos (by omega), smT_s, if_neg (by rw [q]; exact insB_nb j s)]
        · rw [if_neg (by omega)]
      rw [e2, if_neg (show ¬ c + 1 ≤ j by omega), smT_s (j := c + 1)]
      by_cases q : s / 2 ^ c % 2 = 1
      · rw [if_pos q, if_pos (hb.mpr q)]
      · rw [if_neg q, if_neg (fun z => q (hb.mp z))]
theorem drop_V {S : Shp} {j w i : Nat} (hi : i + 1 < S.cnt) : (S.drop j).V w i = S.V w (skB j i) := by
  show dropR (S.V w) j S.cnt i = _
  unfold dropR skB
  by_cases p : i < j
  · rw [if_neg (by omega), if_pos p]
  · rw [if_pos (by omega), if_neg p]
theorem dr_cnt {S : Shp} {j : Nat} (hj : j < S.cnt) (f : Nat → Int) (h : S.cnt = j + 1 → f (j + 1) = f j) : f (upC j (S.cnt - 1)) = f S.cnt := by
  unfold upC
  by_cases p : S.cnt - 1 ≤ j
  · have e : S.cnt = j + 1 := by omega
    rw [if_pos p, e, h e, show j + 1 - 1 = j by omega]
  · rw [if_neg p, show S.cnt - 1 + 1 = S.cnt by omega]
theorem sf_drop {S : Shp} {j s : Nat} (hj : j < S.cnt) : sfT (S.drop j).V s (S.drop j).cnt = sfT S.V (insB j s) S.cnt := by
  have h := sf_ins (V := S.V) (V' := (S.drop j).V) (j := j) (s := s) (S.cnt - 1) (fun i hi => drop_V (by omega))
  rw [dr_cnt hj (fun c => sfT S.V (insB j s) c) (fun _ => by rw [sfT_s, if_neg (insB_nb j s)])] at h
  exact h
theorem sr_drop {S : Shp} {j s : Nat} (hj : j < S.cnt) : srT (S.drop j).V s (S.drop j).cnt = srT S.V (insB j s) S.cnt := by
  have h := sr_ins (V := S.V) (V' := (S.drop j).V) (j := j) (s := s) (S.cnt - 1) (fun i hi => drop_V (by omega))
  rw [dr_cnt hj (fun c => srT S.V (insB j s) c) (fun _ => by rw [srT_s, if_neg (insB_nb j s)])] at h
  exact h
theorem sw_drop {S : Shp} {j s : Nat} (hj : j < S.cnt) : swT (S.drop j).V s (S.drop j).cnt = swT S.V (insB j s) S.cnt := by
  have h := sw_ins (V := S.V) (V' := (S.drop j).V) (j := j) (s := s) (S.cnt - 1) (fun i hi => drop_V (by omega))
  rw [dr_cnt hj (fun c => swT S.V (insB j s) c) (fun _ => by rw [swT_s, if_neg (insB_nb j s)])] at h
  exact h
theorem sm_drop {S : Shp} {j s : Nat} {en x : Int} (hj : j < S.cnt) : smT (S.drop j) s en x (S.drop j).cnt = smT S (insB j s) en x S.cnt := by
  have h := sm_ins (S := S) (S' := S.drop j) rfl (j := j) (s := s) (en := en) (x := x) (S.cnt - 1) (fun i hi => ⟨drop_V (by omega), drop_V (by omega)⟩)
  rw [dr_cnt hj (fun c => smT S (insB j s) en x c) (fun _ => by rw [smT_s, if_neg (insB_nb j s)])] at h
  exact h
theorem en_drop {S : Shp} {j s : Nat} {l f : Int} (hj : j < S.cnt) : endS (S.drop j) s l f = endS S (insB j s) l f := by
  unfold endS
  rw [sf_drop hj, sr_drop hj, sw_drop hj]
  rfl
theorem pw2_ins : ∀ j, j < 8 → ∀ s, s < 128 → pw2 (insB j s) = pw2 s := by decide +kernel
theorem insB_0 (j : Nat) : insB j 0 = 0 := by unfold insB; rw [Nat.zero_div, Nat.zero_mod, Nat.mul_zero]
theorem insB_z {j s : Nat} : insB j s = 0 ↔ s = 0 := by
  constructor
  · intro h
    apply Nat.eq_of_testBit_eq
    intro i
    rw [← insB_sk j s i, h, Nat.zero_testBit, Nat.zero_testBit]
  · intro h
    rw [h, insB_0]
theorem ok_drop {S : Shp} (hk : Sok S) {j s : Nat} (hj : j < S.cnt) (hs : s < 2 ^ (S.cnt - 1)) : okS (S.drop j) s = okS S (insB j s) := by
  have hc := hk.c
  have h128 : s < 128 := Nat.lt_of_lt_of_le hs (show 2 ^ (S.cnt - 1) ≤ 2 ^ 7 from Nat.pow_le_pow_right (by decide) (by omega))
  have e1 : (s != 0) = (insB j s != 0) := by
    rw [Bool.eq_iff_iff, bne_iff_ne, bne_iff_ne, ne_eq, ne_eq, insB_z]
  unfold okS
  rw [sf_drop hj, pw2_ins j (by omega) s h128, e1]
  rfl
theorem al_drop {S : Shp} (hk : Sok S) {j dn s : Nat} (hj : j < S.cnt) (hs : s < 2 ^ (S.cnt - 1)) : (alw (S.drop j) (-1) dn s = true) ↔ (alw S (-1) (upB j dn) (insB j s) = true) := by
  constructor
  · intro h
    obtain ⟨h1, h2, -⟩ := alw_i h
    exact alw_mk (by rw [← ok_drop hk hj hs]; exact h1) ((upB_dis j s dn).mpr h2) (Or.inr (Or.inl rfl))
  · intro h
    obtain ⟨h1, h2, -⟩ := alw_i h
    exact alw_mk (by rw [ok_drop hk hj hs]; exact h1) ((upB_dis j s dn).mp h2) (Or.inr (Or.inl rfl))
theorem fin_drop {S : Shp} (hk : Sok S) {j : Nat} (hj : j < S.cnt) : ∀ k dn l f c, dn < 2 ^ (S.cnt - 1) → fin (S.drop j) (-1) k dn l f c = fin S (-1) k (upB j dn) l f c
  | 0, dn, l, f, c, hd => by
    have e := upB_all (j := j) (dn := dn) (c := S.cnt - 1) (by omega)
    rw [show S.cnt - 1 + 1 = S.cnt by omega] at e
    show (if dn = 2 ^ (S.cnt - 1) - 1 then c else INF) = (if upB j dn = 2 ^ S.cnt - 1 then c else INF)
    by_cases p : dn = 2 ^ (S.cnt - 1) - 1
    · rw [if_pos p, if_pos (e.mpr p)]
    · rw [if_neg p, if_neg (fun z => p (e.mp z))]
  | k + 1, dn, l, f, c, hd => by
    have e := upB_all (j := j) (dn := dn) (c := S.cnt - 1) (by omega)
    rw [show S.cnt - 1 + 1 = S.cnt by omega] at e
    show (if dn = 2 ^ (S.cnt - 1) - 1 then c else mnS (alw (S.drop j) (-1) dn) (fun t => fin (S.drop j) (-1) k (dn ||| t) (sfT (S.drop j).V t (S.drop j).cnt) (endS (S.drop j) t l f) (smT (S.drop j) t (endS (S.drop j) t l f) c (S.drop j).cnt)) (2 ^ (S.cnt - 1))) = (if upB j dn = 2 ^ S.cnt - 1 then c else _)
    by_cases p : dn = 2 ^ (S.cnt - 1) - 1
    · rw [if_pos p, if_pos (e.mpr p)]
    · rw [if_neg p, if_neg (fun z => p (e.mp z))]
      have step : ∀ s, s < 2 ^ (S.cnt - 1) → fin (S.drop j) (-1) k (dn ||| s) (sfT (S.drop j).V s (S.drop j).cnt) (endS (S.drop j) s l f) (smT (S.drop j) s (endS (S.drop j) s l f) c (S.drop j).cnt) = fin S (-1) k (upB j dn ||| insB j s) (sfT S.V (insB j s) S.cnt) (endS S (insB j s) l f) (smT S (insB j s) (endS S (insB j s) l f) c S.cnt) := fun s hs => by
        rw [fin_drop hk hj k _ _ _ _ (or_lt hd hs), sf_drop hj, sm_drop hj, en_drop hj, upB_or]
      apply Int.le_antisymm
      · refine mnS_ge _ (mnS_inf _) (fun t ht ha => ?_)
        obtain ⟨-, h2, -⟩ := alw_i ha
        have hb : ¬ t / 2 ^ j % 2 = 1 := fun z => b_dis h2 j ⟨z, by rw [b_bit, upB_bit, if_pos rfl]⟩
        have hl : delB j t < 2 ^ (S.cnt - 1) := delB_lt (by omega) (by rw [show S.cnt - 1 + 1 = S.cnt by omega]; exact ht)
        rw [← ins_del hb] at ha ⊢
        refine Int.le_trans (mnS_le _ hl ((al_drop hk hj hl).mpr ha)) ?_
        rw [step _ hl]
        exact Int.le_refl _
      · refine mnS_ge _ (mnS_inf _) (fun s hs ha => ?_)
        have hl : insB j s < 2 ^ S.cnt := by
          have := insB_lt (j := j) (s := s) (c := S.cnt - 1) (by omega) hs
          rw [show S.cnt - 1 + 1 = S.cnt by omega] at this
          exact this
        rw [step _ hs]
        exact mnS_le _ hl ((al_drop hk hj hs).mp ha)
/-- the least cost without job j -/
theorem lc_drop {S : Shp} (hk : Sok S) {j : Nat} (hj : j < S.cnt) : (if 2 ^ j = alS S then 0 else fn S (-1) (2 ^ j) (-1) 0 (neu S)) = lcS (S.drop j) (-1) := by
  have e0 : upB j 0 = 2 ^ j := by unfold upB; rw [insB_0, Nat.zero_or]
  have e := upB_all (j := j) (dn := 0) (c := S.cnt - 1) (by omega)
  rw [show S.cnt - 1 + 1 = S.cnt by omega, e0] at e
  have h1 : (if (0 : Nat) = alS (S.drop j) then 0 else fn (S.drop j) (-1) 0 (-1) 0 (neu (S.drop j))) = lcS (S.drop j) (-1) := lc_fn (hk.drop hj)
  rw [← h1]
  have e : (2 ^ j = alS S) ↔ (0 = alS (S.drop j)) := e
  have e2 : fn S (-1) (2 ^ j) (-1) 0 (neu S) = fn (S.drop j) (-1) 0 (-1) 0 (neu (S.drop j)) := by
    have := fin_drop hk hj 8 0 (-1) 0 (neu S) Nat.one_le_two_pow
    rw [e0] at this
    exact this.symm
  rw [e2]
  by_cases p : 0 = alS (S.drop j)
  · rw [if_pos p, if_pos (e.mpr p)]
  · rw [if_neg p, if_neg (fun z => p (e.mp z))]
