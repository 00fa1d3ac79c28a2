/-! paths of sets, and the sets of a sequence -/
theorem b_pow (j i : Nat) : (2 ^ j / 2 ^ i % 2 = 1) ↔ j = i := by
  rw [b_bit, Nat.testBit_two_pow, decide_eq_true_iff]
theorem b_ins (s j i : Nat) : ((s ||| 2 ^ j) / 2 ^ i % 2 = 1) ↔ (s / 2 ^ i % 2 = 1 ∨ j = i) := by
  rw [b_orb, b_pow]
theorem swT_ins {V : Nat → Nat → Int} {s j : Nat} (hj : ¬ s / 2 ^ j % 2 = 1) : ∀ c, swT V (s ||| 2 ^ j) c = if j < c then swT V s c + V 1 j else swT V s c
  | 0 => by rw [if_neg (by omega)]; rfl
  | c + 1 => by
    have h := swT_ins (V := V) hj c
    have hb := b_ins s j c
    unfold swT
    by_cases q : j = c
    · rw [if_pos (hb.mpr (Or.inr q)), if_pos (by omega), h, if_neg (by omega), if_neg (by rw [← q]; exact hj), q]
    · by_cases q2 : s / 2 ^ c % 2 = 1
      · rw [if_pos (hb.mpr (Or.inl q2)), h, if_pos q2]
        by_cases q3 : j < c
        · rw [if_pos q3, if_pos (by omega)]; omega
        · rw [if_neg q3, if_neg (by omega)]
      · rw [if_neg (fun z => (hb.mp z).elim q2 q), h, if_neg q2]
        by_cases q3 : j < c
        · rw [if_pos q3, if_pos (by omega)]
        · rw [if_neg q3, if_neg (by omega)]
theorem srT_ins {V : Nat → Nat → Int} {s j : Nat} : ∀ c, srT V (s ||| 2 ^ j) c = if j < c then max (srT V s c) (V 2 j) else srT V s c
  | 0 => by rw [if_neg (by omega)]; rfl
  | c + 1 => by
    have h := srT_ins (V := V) (s := s) (j := j) c
    have hb := b_ins s j c
    unfold srT
    by_cases q : j = c
    · rw [if_pos (hb.mpr (Or.inr q)), if_pos (by omega), h, if_neg (by omega), q]
      split <;> omega
    · by_cases q2 : s / 2 ^ c % 2 = 1
      · rw [if_pos (hb.mpr (Or.inl q2)), h, if_pos q2]
        by_cases q3 : j < c
        · rw [if_pos q3, if_pos (by omega)]; omega
        · rw [if_neg q3, if_neg (by omega)]
      · rw [if_neg (fun z => (hb.mp z).elim q2 q), h, if_neg q2]
        by_cases q3 : j < c
        · rw [if_pos q3, if_pos (by omega)]
        · rw [if_neg q3, if_neg (by omega)]
theorem fld_one {S : Shp} {j : Nat} {v : Nat → Int} {s : Int} : ∀ c, fld S (fun i => j = i) v s c = if j < c then jn S s (v j) else s
  | 0 => by rw [if_neg (by omega)]; rfl
  | c + 1 => by
    rw [fld_s, fld_one c]
    by_cases q : j = c
    · rw [if_pos q, if_neg (by omega), if_pos (by omega), q]
    · rw [if_neg q]
      by_cases q2 : j < c
      · rw [if_pos q2, if_pos (by omega)]
      · rw [if_neg q2, if_neg (by omega)]
theorem smT_ins {S : Shp} {t j : Nat} {en s : Int} (hj : ¬ t / 2 ^ j % 2 = 1) (hc : j < S.cnt) : smT S (t ||| 2 ^ j) en s S.cnt = jn S (smT S t en s S.cnt) (pen S j en) := by
  rw [smT_fld, smT_fld, fld_split (P1 := fun i => t / 2 ^ i % 2 = 1) (P2 := fun i => j = i) S.cnt (fun i _ => b_ins t j i) (fun i _ z => hj (by rw [z.2]; exact z.1)), fld_one, if_pos hc]
theorem sf_all {V : Nat → Nat → Int} {s : Nat} {F : Int} : ∀ c, (∀ i, i < c → s / 2 ^ i % 2 = 1 → V 0 i = F) → sfT V s c = 4 ∨ sfT V s c = F
  | 0, _ => Or.inl rfl
  | c + 1, h => by
    have h1 := sf_all c (fun i hi => h i (by omega))
    have h2 := h c (by omega)
    unfold sfT
    by_cases q : s / 2 ^ c % 2 = 1
    · rw [if_pos q, h2 q, if_pos h1]; exact Or.inr rfl
    · rw [if_neg q]; exact h1
theorem sf_is {V : Nat → Nat → Int} (hV : Vok V) {s c j : Nat} {F : Int} (h : ∀ i, i < c → s / 2 ^ i % 2 = 1 → V 0 i = F) (hj : j < c) (hb : s / 2 ^ j % 2 = 1) : sfT V s c = F := by
  rcases sf_all c h with q | q
  · exact absurd hb (sf_none hV c q hj)
  · exact q
/-- the jobs of the places be to be + i as a set -/
def stO (o : Nat → Int) (be : Nat) : Nat → Nat
  | 0 => 0
  | i + 1 => stO o be i ||| 2 ^ (jb o (be + i))
theorem stO_bit {o : Nat → Int} {be j : Nat} : ∀ i, (stO o be i / 2 ^ j % 2 = 1) ↔ ∃ k, k < i ∧ jb o (be + k) = j
  | 0 => by
    unfold stO
    rw [Nat.zero_div]
    exact ⟨fun z => by omega, fun ⟨k, z, _⟩ => by omega⟩
  | i + 1 => by
    unfold stO
    rw [b_ins, stO_bit i]
    refine ⟨fun z => ?_, fun ⟨k, k1, k2⟩ => ?_⟩
    · rcases z with ⟨k, k1, k2⟩ | z
      · exact ⟨k, by omega, k2⟩
      · exact ⟨i, by omega, z⟩
    · by_cases q : k = i
      · right; rw [← q]; exact k2
      · left; exact ⟨k, by omega, k2⟩
theorem stO_lt {o : Nat → Int} {be c : Nat} : ∀ i, (∀ k, k < i → jb o (be + k) < c) → stO o be i < 2 ^ c
  | 0, _ => Nat.one_le_two_pow
  | i + 1, h => or_lt (stO_lt i (fun k hk => h k (by omega))) (Nat.pow_lt_pow_right (by decide) (h i (by omega)))
/-- where a path of sets leads -/
def pth (S : Shp) : List Nat → Nat → Int → Int → Int → Nat × Int × Int × Int
  | [], dn, l, f, s => (dn, l, f, s)
  | t :: ts, dn, l, f, s => pth S ts (dn ||| t) (sfT S.V t S.cnt) (endS S t l f) (smT S t (endS S t l f) s S.cnt)
def pthOk (S : Shp) (fi : Int) : List Nat → Nat → Prop
  | [], dn => dn = alS S
  | t :: ts, dn => t < 2 ^ S.cnt ∧ alw S fi dn t = true ∧ pthOk S fi ts (dn ||| t)
theorem pth_app (S : Shp) : ∀ (a b : List Nat) (dn : Nat) (l f s : Int), pth S (a ++ b) dn l f s = pth S b (pth S a dn l f s).1 (pth S a dn l f s).2.1 (pth S a dn l f s).2.2.1 (pth S a dn l f s).2.2.2
  | [], _, _, _, _, _ => rfl
  | t :: a, b, dn, l, f, s => pth_app S a b _ _ _ _
theorem not_all {S : Shp} {fi : Int} {dn t : Nat} (ht : t < 2 ^ S.cnt) (ha : alw S fi dn t = true) : dn ≠ alS S := fun e => by
  obtain ⟨h1, h2, -⟩ := alw_i ha
  obtain ⟨j, j1, j2⟩ := bit_ex (okS_i h1).1 S.cnt ht
  exact b_dis h2 j ⟨j2, by rw [e]; exact bit_all j1⟩
/-- no path costs less than the least -/
theorem fn_path {S : Shp} (hc : S.cnt ≤ 8) {fi : Int} : ∀ (ts : List Nat) (dn : Nat) (l f s : Int), dn < 2 ^ S.cnt → pthOk S fi ts dn → fn S fi dn l f s ≤ (pth S ts dn l f s).2.2.2
  | [], dn, l, f, s, _, h => by rw [fn_all h]; exact Int.le_refl _
  | t :: ts, dn, l, f, s, hd, h => by
    obtain ⟨h1, h2, h3⟩ := h
    exact Int.le_trans (Fx_ge hc hd (not_all h1 h2) h1 h2) (fn_path hc ts _ _ _ _ (or_lt hd h1) h3)
/-- the first path of cost fl is a path, and costs fl -/
theorem Gp_path {S : Shp} {fi fl : Int} : ∀ (ts : List Nat) (dn : Nat) (l f s : Int), Gp S fi fl dn l f s ts → pthOk S fi ts dn ∧ (pth S ts dn l f s).2.2.2 = fl
  | [], dn, l, f, s, h => h
  | t :: ts, dn, l, f, s, h => by
    obtain ⟨-, h1, h2, -, h3⟩ := h
    obtain ⟨a, b⟩ := Gp_path ts _ _ _ _ h3
    exact ⟨⟨h1, h2, a⟩, b⟩
/-- there is one first path -/
theorem Gp_one {S : Shp} (hc : S.cnt ≤ 8) {fi fl : Int} : ∀ (ts ts' : List Nat) (dn : Nat) (l f s : Int), dn < 2 ^ S.cnt → Gp S fi fl dn l f s ts → Gp S fi fl dn l f s ts' → ts = ts'
  | [], [], _, _, _, _, _, _, _ => rfl
  | [], t :: ts', dn, l, f, s, _, h, h' => absurd h.1 h'.1
  | t :: ts, [], dn, l, f, s, _, h, h' => absurd h'.1 h.1
  | t :: ts, t' :: ts', dn, l, f, s, hd, h, h' => by
    obtain ⟨-, h1, h2, h3, h4⟩ := h
    obtain ⟨-, g1, g2, g3, g4⟩ := h'
    obtain ⟨a1, a2⟩ := Gp_path ts _ _ _ _ h4
    obtain ⟨b1, b2⟩ := Gp_path ts' _ _ _ _ g4
    have f1 : Fx S fi dn l f s t ≤ fl := by rw [← a2]; exact fn_path hc ts _ _ _ _ (or_lt hd h1) a1
    have f2 : Fx S fi dn l f s t' ≤ fl := by rw [← b2]; exact fn_path hc ts' _ _ _ _ (or_lt hd g1) b1
    have e : t = t' := by
      rcases (show t < t' ∨ t = t' ∨ t' < t by omega) with q | q | q
      · have := g3 t q h2; omega
      · exact q
      · have := h3 t' q g2; omega
    subst e
    rw [Gp_one hc ts ts' _ _ _ _ (or_lt hd h1) h4 g4]
