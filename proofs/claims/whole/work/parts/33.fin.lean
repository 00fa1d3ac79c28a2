/-! THE LEAST FINAL COST, by recursion over the sets that can come next -/
def INF : Int := 1000000000000000
theorem b_bit (x j : Nat) : (x / 2 ^ j % 2 = 1) ↔ x.testBit j = true := by
  rw [Nat.testBit_eq_decide_div_mod_eq, decide_eq_true_iff]
theorem b_orb (x y j : Nat) : ((x ||| y) / 2 ^ j % 2 = 1) ↔ (x / 2 ^ j % 2 = 1 ∨ y / 2 ^ j % 2 = 1) := by
  rw [b_bit, b_bit, b_bit, Nat.testBit_or, Bool.or_eq_true]
theorem b_dis {x y : Nat} (h : x &&& y = 0) (j : Nat) : ¬ (x / 2 ^ j % 2 = 1 ∧ y / 2 ^ j % 2 = 1) := by
  rw [b_bit, b_bit, ← Bool.and_eq_true, ← Nat.testBit_and, h, Nat.zero_testBit]
  decide
def alS (S : Shp) : Nat := 2 ^ S.cnt - 1
/-- set s may come next behind the jobs done -/
def alw (S : Shp) (fi : Int) (dn s : Nat) : Bool := okS S s && (decide (s &&& dn = 0) && (dn != 0 || decide (fi = -1 ∨ s / 2 ^ fi.toNat % 2 = 1)))
theorem alw_i {S : Shp} {fi : Int} {dn s : Nat} (h : alw S fi dn s = true) : okS S s = true ∧ s &&& dn = 0 ∧ (dn ≠ 0 ∨ fi = -1 ∨ s / 2 ^ fi.toNat % 2 = 1) := by
  unfold alw at h
  rw [Bool.and_eq_true, Bool.and_eq_true, decide_eq_true_iff, Bool.or_eq_true, bne_iff_ne, decide_eq_true_iff] at h
  exact h
theorem alw_mk {S : Shp} {fi : Int} {dn s : Nat} (h1 : okS S s = true) (h2 : s &&& dn = 0) (h3 : dn ≠ 0 ∨ fi = -1 ∨ s / 2 ^ fi.toNat % 2 = 1) : alw S fi dn s = true := by
  unfold alw
  rw [Bool.and_eq_true, Bool.and_eq_true, decide_eq_true_iff, Bool.or_eq_true, bne_iff_ne, decide_eq_true_iff]
  exact ⟨h1, h2, h3⟩
theorem okS_i {S : Shp} {s : Nat} (h : okS S s = true) : s ≠ 0 ∧ sfT S.V s S.cnt ≠ -1 := by
  unfold okS at h
  rw [Bool.and_eq_true, Bool.and_eq_true, decide_eq_true_iff, bne_iff_ne] at h
  exact ⟨h.1.1, h.2⟩
def mnS (P : Nat → Bool) (f : Nat → Int) : Nat → Int
  | 0 => INF
  | s + 1 => if P s then min (mnS P f s) (f s) else mnS P f s
theorem mnS_le {P : Nat → Bool} {f : Nat → Int} {s : Nat} : ∀ k, s < k → P s = true → mnS P f k ≤ f s
  | 0, h, _ => by omega
  | k + 1, h, hp => by
    unfold mnS
    by_cases q : s = k
    · rw [← q, if_pos hp]; omega
    · have := mnS_le (f := f) k (show s < k by omega) hp
      split <;> omega
theorem mnS_inf {P : Nat → Bool} {f : Nat → Int} : ∀ k, mnS P f k ≤ INF
  | 0 => Int.le_refl _
  | k + 1 => by have := mnS_inf (P := P) (f := f) k; unfold mnS; split <;> omega
theorem mnS_ge {P : Nat → Bool} {f : Nat → Int} {x : Int} : ∀ k, x ≤ INF → (∀ s, s < k → P s = true → x ≤ f s) → x ≤ mnS P f k
  | 0, h, _ => h
  | k + 1, h, hp => by
    have h1 := mnS_ge k h (fun s hs => hp s (by omega))
    unfold mnS
    by_cases q : P k = true
    · rw [if_pos q]; have := hp k (by omega) q; omega
    · rw [if_neg q]; exact h1
theorem mnS_at {P : Nat → Bool} {f : Nat → Int} : ∀ k, mnS P f k < INF → ∃ s, s < k ∧ P s = true ∧ f s = mnS P f k
  | 0, h => by unfold mnS at h; omega
  | k + 1, h => by
    unfold mnS at h ⊢
    by_cases q : P k = true
    · rw [if_pos q] at h ⊢
      by_cases q2 : f k ≤ mnS P f k
      · exact ⟨k, by omega, q, by omega⟩
      · obtain ⟨s, h1, h2, h3⟩ := mnS_at (P := P) (f := f) k (by omega)
        exact ⟨s, by omega, h2, by omega⟩
    · rw [if_neg q] at h ⊢
      obtain ⟨s, h1, h2, h3⟩ := mnS_at k h
      exact ⟨s, by omega, h2, h3⟩
theorem mnS_congr {P : Nat → Bool} {f g : Nat → Int} : ∀ k, (∀ s, s < k → P s = true → f s = g s) → mnS P f k = mnS P g k
  | 0, _ => rfl
  | k + 1, h => by
    unfold mnS
    rw [mnS_congr k (fun s hs => h s (by omega))]
    by_cases q : P k = true
    · rw [if_pos q, if_pos q, h k (by omega) q]
    · rw [if_neg q, if_neg q]
def fin (S : Shp) (fi : Int) : Nat → Nat → Int → Int → Int → Int
  | 0, dn, _, _, s => if dn = alS S then s else INF
  | k + 1, dn, l, f, s => if dn = alS S then s else mnS (alw S fi dn) (fun t => fin S fi k (dn ||| t) (sfT S.V t S.cnt) (endS S t l f) (smT S t (endS S t l f) s S.cnt)) (2 ^ S.cnt)
/-- how many jobs are left -/
def rmT (dn : Nat) : Nat → Nat
  | 0 => 0
  | j + 1 => if dn / 2 ^ j % 2 = 1 then rmT dn j else rmT dn j + 1
theorem rmT_le (dn : Nat) : ∀ j, rmT dn j ≤ j
  | 0 => Nat.le_refl _
  | j + 1 => by have := rmT_le dn j; unfold rmT; split <;> omega
theorem rmT_or {dn t : Nat} : ∀ j, rmT (dn ||| t) j ≤ rmT dn j
  | 0 => Nat.le_refl _
  | j + 1 => by
    have h := rmT_or (dn := dn) (t := t) j
    unfold rmT
    by_cases q : dn / 2 ^ j % 2 = 1
    · rw [if_pos q, if_pos ((b_orb _ _ _).mpr (Or.inl q))]; exact h
    · rw [if_neg q]; split <;> omega
theorem rmT_lt {dn t : Nat} (h0 : t ≠ 0) (hd : t &&& dn = 0) : ∀ j, t < 2 ^ j → rmT (dn ||| t) j < rmT dn j
  | 0, h => by rw [Nat.pow_zero] at h; omega
  | j + 1, h => by
    unfold rmT
    by_cases q : t / 2 ^ j % 2 = 1
    · rw [if_pos ((b_orb _ _ _).mpr (Or.inr q)), if_neg (fun z => b_dis hd j ⟨q, z⟩)]
      have := rmT_or (dn := dn) (t := t) j
      omega
    · have h1 := rmT_lt h0 hd j (b_less h q)
      by_cases q2 : dn / 2 ^ j % 2 = 1
      · rw [if_pos q2, if_pos ((b_orb _ _ _).mpr (Or.inl q2))]; exact h1
      · rw [if_neg q2, if_neg (fun z => ((b_orb _ _ _).mp z).elim q2 q)]; omega
theorem rmT_bits {dn : Nat} : ∀ c, rmT dn c = 0 → ∀ j, j < c → dn / 2 ^ j % 2 = 1
  | 0, _, j, hj => by omega
  | c + 1, h, j, hj => by
    unfold rmT at h
    by_cases q : dn / 2 ^ c % 2 = 1
    · rw [if_pos q] at h
      by_cases q2 : j = c
      · rw [q2]; exact q
      · exact rmT_bits c h j (by omega)
    · rw [if_neg q] at h; omega
theorem rmT_zero {dn c : Nat} (hd : dn < 2 ^ c) (h : rmT dn c = 0) : dn = 2 ^ c - 1 := by
  apply Nat.eq_of_testBit_eq
  intro i
  rw [Nat.testBit_two_pow_sub_one]
  by_cases q : i < c
  · rw [decide_eq_true q]; exact (b_bit _ _).mp (rmT_bits c h i q)
  · rw [decide_eq_false q]
    exact Nat.testBit_lt_two_pow (Nat.lt_of_lt_of_le hd (Nat.pow_le_pow_right (by decide) (by omega)))
theorem or_lt {x y c : Nat} (h1 : x < 2 ^ c) (h2 : y < 2 ^ c) : x ||| y < 2 ^ c := Nat.or_lt_two_pow h1 h2
theorem fin_more {S : Shp} {fi : Int} : ∀ k dn l f s, dn < 2 ^ S.cnt → rmT dn S.cnt ≤ k → fin S fi (k + 1) dn l f s = fin S fi k dn l f s
  | 0, dn, l, f, s, hd, h => by
    have : dn = alS S := rmT_zero hd (by omega)
    unfold fin
    rw [if_pos this, if_pos this]
  | k + 1, dn, l, f, s, hd, h => by
    show (if _ then _ else _) = (if _ then _ else _)
    by_cases q : dn = alS S
    · rw [if_pos q, if_pos q]
    · rw [if_neg q, if_neg q]
      refine mnS_congr _ (fun t ht hp => ?_)
      obtain ⟨h1, h2, -⟩ := alw_i hp
      have h3 := rmT_lt (okS_i h1).1 h2 S.cnt ht
      exact fin_more k _ _ _ _ (or_lt hd ht) (by omega)
def fn (S : Shp) (fi : Int) (dn : Nat) (l f s : Int) : Int := fin S fi 8 dn l f s
theorem fn_all {S : Shp} {fi : Int} {dn : Nat} {l f s : Int} (h : dn = alS S) : fn S fi dn l f s = s := by
  unfold fn fin; rw [if_pos h]
theorem fn_eq {S : Shp} {fi : Int} {dn : Nat} {l f s : Int} (hc : S.cnt ≤ 8) (hd : dn < 2 ^ S.cnt) (h : dn ≠ alS S) : fn S fi dn l f s = mnS (alw S fi dn) (fun t => fn S fi (dn ||| t) (sfT S.V t S.cnt) (endS S t l f) (smT S t (endS S t l f) s S.cnt)) (2 ^ S.cnt) := by
  have h0 := rmT_le dn S.cnt
  unfold fn
  rw [← fin_more 8 dn l f s hd (by omega)]
  show (if _ then _ else _) = _
  rw [if_neg h]
/-- a fold of penalties over the jobs of P -/
def fld (S : Shp) (P : Nat → Prop) [DecidablePred P] (v : Nat → Int) (s : Int) : Nat → Int
  | 0 => s
  | j + 1 => if P j then jn S (fld S P v s j) (v j) else fld S P v s j
theorem fld_s {S : Shp} {P : Nat → Prop} [DecidablePred P] {v : Nat → Int} {s : Int} (j : Nat) : fld S P v s (j + 1) = if P j then jn S (fld S P v s j) (v j) else fld S P v s j := rfl
theorem jn_mono {S : Shp} {a b a' b' : Int} (h1 : a ≤ a') (h2 : b ≤ b') : jn S a b ≤ jn S a' b' := by
  unfold jn; split <;> omega
theorem jn_swap (S : Shp) (a b c : Int) : jn S (jn S a b) c = jn S (jn S a c) b := by
  unfold jn; split <;> omega
theorem fld_mono {S : Shp} {P : Nat → Prop} [DecidablePred P] {v v' : Nat → Int} {s s' : Int} (hs : s ≤ s') : ∀ c, (∀ j, j < c → P j → v j ≤ v' j) → fld S P v s c ≤ fld S P v' s' c
  | 0, _ => hs
  | c + 1, h => by
    have h1 := fld_mono (S := S) hs c (fun j hj => h j (by omega))
    unfold fld
    by_cases q : P c
    · rw [if_pos q, if_pos q]; exact jn_mono h1 (h c (by omega) q)
    · rw [if_neg q, if_neg q]; exact h1
theorem fld_jn {S : Shp} {P : Nat → Prop} [DecidablePred P] {v : Nat → Int} {s a : Int} : ∀ c, fld S P v (jn S s a) c = jn S (fld S P v s c) a
  | 0 => rfl
  | c + 1 => by
    unfold fld
    by_cases q : P c
    · rw [if_pos q, if_pos q, fld_jn c, jn_swap]
    · rw [if_neg q, if_neg q, fld_jn c]
theorem fld_split {S : Shp} {P P1 P2 : Nat → Prop} [DecidablePred P] [DecidablePred P1] [DecidablePred P2] {v : Nat → Int} {s : Int} : ∀ c, (∀ j, j < c → (P j ↔ P1 j ∨ P2 j)) → (∀ j, j < c → ¬ (P1 j ∧ P2 j)) → fld S P v s c = fld S P2 v (fld S P1 v s c) c
  | 0, _, _ => rfl
  | c + 1, h, hd => by
    have h1 := fld_split (S := S) (v := v) (s := s) c (fun j hj => h j (by omega)) (fun j hj => hd j (by omega))
    have h2 := h c (by omega)
    have h3 := hd c (by omega)
    rw [fld_s, fld_s, fld_s]
    by_cases q1 : P1 c
    · rw [if_pos (h2.mpr (Or.inl q1)), if_pos q1, if_neg (fun z => h3 ⟨q1, z⟩), h1, fld_jn]
    · by_cases q2 : P2 c
      · rw [if_pos (h2.mpr (Or.inr q2)), if_neg q1, if_pos q2, h1]
      · rw [if_neg (fun z => (h2.mp z).elim q1 q2), if_neg q1, if_neg q2, h1]
theorem smT_fld {S : Shp} {t : Nat} {en s : Int} : ∀ c, smT S t en s c = fld S (fun j => t / 2 ^ j % 2 = 1) (fun j => pen S j en) s c
  | 0 => rfl
  | c + 1 => by unfold smT fld; rw [smT_fld c]
theorem baT_fld {S : Shp} {dn : Nat} {l f s : Int} : ∀ c, baT S dn l f s c = fld S (fun j => ¬ dn / 2 ^ j % 2 = 1) (fun j => pen S j (cpA S l f j)) s c
  | 0 => rfl
  | c + 1 => by
    unfold baT fld; rw [baT_fld c]
    by_cases q : dn / 2 ^ c % 2 = 1
    · rw [if_pos q, if_neg (fun z => z q)]
    · rw [if_neg q, if_pos q]
theorem pen_mono {S : Shp} (hV : Vok S.V) (j : Nat) {C D : Int} (h : C ≤ D) : pen S j C ≤ pen S j D := by
  have h4 : 0 ≤ S.V 4 j := (hV 4 j).1
  unfold pen penz
  split
  · omega
  · split
    · omega
    · split
      · exact Int.mul_le_mul_of_nonneg_left h h4
      · by_cases q : C - S.V 3 j ≤ 0
        · rw [if_pos q]
          split
          · omega
          · have a1 : 0 ≤ D - S.V 3 j := by omega
            have a2 := Int.mul_nonneg h4 a1
            split
            · exact a2
            · split
              · exact Int.mul_nonneg a2 a1
              · exact h4
        · have q' : ¬ (D - S.V 3 j ≤ 0) := by omega
          rw [if_neg q, if_neg q']
          have a0 : 0 ≤ C - S.V 3 j := by omega
          have a1 : C - S.V 3 j ≤ D - S.V 3 j := by omega
          have a2 := Int.mul_le_mul_of_nonneg_left a1 h4
          split
          · exact a2
          · split
            · exact Int.mul_le_mul a2 a1 a0 (Int.mul_nonneg h4 (by omega))
            · omega
theorem pen_pos {S : Shp} (hV : Vok S.V) (j : Nat) {C : Int} (ho : S.ob < 4) (h : 0 ≤ C) : 0 ≤ pen S j C := by
  have h4 : 0 ≤ S.V 4 j := (hV 4 j).1
  unfold pen penz
  rw [if_neg (by omega), if_neg (by omega)]
  split
  · exact Int.mul_nonneg h4 h
  · split
    · omega
    · have a1 : 0 ≤ C - S.V 3 j := by omega
      have a2 := Int.mul_nonneg h4 a1
      split
      · exact a2
      · split
        · exact Int.mul_nonneg a2 a1
        · exact h4
theorem fld_ge {S : Shp} {P : Nat → Prop} [DecidablePred P] {v : Nat → Int} {s : Int} : ∀ c, (∀ j, j < c → P j → S.ob < 4 → 0 ≤ v j) → s ≤ fld S P v s c
  | 0, _ => Int.le_refl _
  | c + 1, h => by
    have h1 := fld_ge (S := S) (P := P) (v := v) (s := s) c (fun j hj => h j (by omega))
    unfold fld
    by_cases q : P c
    · rw [if_pos q]
      have := h c (by omega) q
      unfold jn
      split <;> omega
    · rw [if_neg q]; exact h1
theorem endS_mono {S : Shp} (t : Nat) (l : Int) {f f' : Int} (h : f ≤ f') : endS S t l f ≤ endS S t l f' := by
  unfold endS; split <;> omega
theorem endS_ge {S : Shp} (hk : Sok S) (t : Nat) (l f : Int) : f + gapS S (l + 1).toNat (sfT S.V t S.cnt).toNat + swT S.V t S.cnt ≤ endS S t l f := by
  unfold endS; split <;> omega
theorem fin_mono {S : Shp} (hV : Vok S.V) {fi : Int} : ∀ k dn l f s f' s', f ≤ f' → s ≤ s' → fin S fi k dn l f s ≤ fin S fi k dn l f' s'
  | 0, dn, l, f, s, f', s', h1, h2 => by unfold fin; split <;> omega
  | k + 1, dn, l, f, s, f', s', h1, h2 => by
    show (if _ then _ else _) ≤ (if _ then _ else _)
    split
    · exact h2
    · refine mnS_ge _ (mnS_inf _) (fun t ht hp => Int.le_trans (mnS_le _ ht hp) ?_)
      refine fin_mono hV k _ _ _ _ _ _ (endS_mono t l h1) ?_
      rw [smT_fld, smT_fld]
      exact fld_mono h2 _ (fun j _ _ => pen_mono hV j (endS_mono t l h1))
theorem fn_mono {S : Shp} (hV : Vok S.V) {fi : Int} {dn : Nat} {l f s f' s' : Int} (h1 : f ≤ f') (h2 : s ≤ s') : fn S fi dn l f s ≤ fn S fi dn l f' s' := fin_mono hV 8 _ _ _ _ _ _ h1 h2
theorem endS_pos {S : Shp} (hk : Sok S) (t : Nat) (l : Int) {f : Int} (h : 0 ≤ f) : 0 ≤ endS S t l f := by
  have h1 := endS_ge hk t l f
  have h2 := gapS_r hk.t (l + 1).toNat (sfT S.V t S.cnt).toNat
  have h3 := swT_r hk.v t S.cnt
  omega
theorem fin_sum {S : Shp} (hk : Sok S) {fi : Int} : ∀ k dn l f s, 0 ≤ f → min s INF ≤ fin S fi k dn l f s
  | 0, dn, l, f, s, h => by unfold fin; split <;> omega
  | k + 1, dn, l, f, s, h => by
    show _ ≤ (if _ then _ else _)
    split
    · omega
    · refine mnS_ge _ (by omega) (fun t ht hp => ?_)
      have h1 := fin_sum hk (fi := fi) k (dn ||| t) (sfT S.V t S.cnt) (endS S t l f) (smT S t (endS S t l f) s S.cnt) (endS_pos hk t l h)
      have h2 : s ≤ smT S t (endS S t l f) s S.cnt := by
        rw [smT_fld]; exact fld_ge _ (fun j _ _ ho => pen_pos hk.v j ho (endS_pos hk t l h))
      omega
