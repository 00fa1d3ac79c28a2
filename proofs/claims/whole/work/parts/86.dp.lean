/-! LEAST COSTS BY SETS, FAMILY AND TIME: the words of the model's search -/
theorem sfT_s {V : Nat → Nat → Int} {s j : Nat} : sfT V s (j + 1) = if s / 2 ^ j % 2 = 1 then (if sfT V s j = 4 ∨ sfT V s j = V 0 j then V 0 j else -1) else sfT V s j := rfl
theorem srT_s {V : Nat → Nat → Int} {s j : Nat} : srT V s (j + 1) = if s / 2 ^ j % 2 = 1 then max (srT V s j) (V 2 j) else srT V s j := rfl
theorem swT_s {V : Nat → Nat → Int} {s j : Nat} : swT V s (j + 1) = if s / 2 ^ j % 2 = 1 then swT V s j + V 1 j else swT V s j := rfl
theorem smT_s {S : Shp} {s : Nat} {en sum : Int} {j : Nat} : smT S s en sum (j + 1) = if s / 2 ^ j % 2 = 1 then jn S (smT S s en sum j) (pen S j en) else smT S s en sum j := rfl
theorem rmT_s {dn j : Nat} : rmT dn (j + 1) = if dn / 2 ^ j % 2 = 1 then rmT dn j else rmT dn j + 1 := rfl
/-- what the model knows of every set -/
def SetsM (S : Shp) (sF sR sT : Nat → Int) : Prop := ∀ s, 1 ≤ s → s < 2 ^ S.cnt → sF s = sfT S.V s S.cnt ∧ sR s = srT S.V s S.cnt ∧ sT s = swT S.V s S.cnt
theorem and_2 (x y : Nat) : (x &&& y) / 2 = x / 2 &&& y / 2 ∧ ((x &&& y) % 2 = 1 ↔ (x % 2 = 1 ∧ y % 2 = 1)) := by
  refine ⟨Nat.and_div_two, ?_⟩
  have h := Nat.testBit_and x y 0
  rw [Nat.testBit_zero, Nat.testBit_zero, Nat.testBit_zero, ← Bool.decide_and] at h
  exact decide_eq_decide.mp h
/-- the next smaller set within left -/
theorem sub_next : ∀ (left its t : Nat), its &&& left = its → t &&& left = t → t < its → t ≤ (its - 1) &&& left := by
  intro left
  induction left using Nat.strongRecOn with
  | _ left ih =>
    intro its t h1 h2 h3
    by_cases z : left = 0
    · rw [z, Nat.and_zero] at h1
      omega
    · have a1 := and_2 its left
      have a2 := and_2 t left
      have a3 := and_2 (its - 1) left
      rw [h1] at a1
      rw [h2] at a2
      by_cases p : its % 2 = 1
      · have e : (its - 1) / 2 = its / 2 := by omega
        rw [e, ← a1.1] at a3
        omega
      · have e : (its - 1) / 2 = its / 2 - 1 := by omega
        have key := ih (left / 2) (by omega) (its / 2) (t / 2) a1.1.symm a2.1.symm (by omega)
        rw [e] at a3
        have b1 : (its - 1) % 2 = 1 := by omega
        have b2 := a3.2
        have b3 := a2.2
        generalize (its / 2 - 1 &&& left / 2) = q at *
        generalize (its - 1 &&& left) = r at *
        omega
theorem sub_in (left its : Nat) (h : its &&& left = its) : ((its - 1) &&& left) &&& left = (its - 1) &&& left := by
  rw [Nat.and_assoc, Nat.and_self]
theorem sub_lt {left its : Nat} (h : its ≠ 0) : (its - 1) &&& left < its := by
  have : (its - 1) &&& left ≤ its - 1 := Nat.and_le_left
  omega
theorem sub_bit : ∀ (i x y : Nat), (x - (x &&& y)).testBit i = (x.testBit i && !(y.testBit i))
  | 0, x, y => by
    have a := and_2 x y
    have b : x &&& y ≤ x := Nat.and_le_left
    rw [Nat.testBit_zero, Nat.testBit_zero, Nat.testBit_zero]
    generalize x &&& y = z at *
    by_cases p : x % 2 = 1
    · by_cases q : y % 2 = 1
      · rw [decide_eq_true p, decide_eq_true q, decide_eq_false (by omega)]; rfl
      · rw [decide_eq_true p, decide_eq_false q, decide_eq_true (by omega)]; rfl
    · rw [decide_eq_false p, decide_eq_false (by omega)]; rfl
  | i + 1, x, y => by
    have a := and_2 x y
    have b : x &&& y ≤ x := Nat.and_le_left
    have c : x / 2 &&& y / 2 ≤ x / 2 := Nat.and_le_left
    rw [Nat.testBit_succ, Nat.testBit_succ, Nat.testBit_succ, ← sub_bit i (x / 2) (y / 2)]
    congr 1
    generalize x &&& y = z at *
    generalize x / 2 &&& y / 2 = w at *
    omega
/-- the jobs that are left -/
def lfS (S : Shp) (dn : Nat) : Nat := (2 ^ S.cnt - 1) - ((2 ^ S.cnt - 1) &&& dn)
theorem lfS_lt (S : Shp) (dn : Nat) : lfS S dn < 2 ^ S.cnt := by
  have : 1 ≤ 2 ^ S.cnt := Nat.one_le_two_pow
  unfold lfS
  omega
theorem lfS_mk {S : Shp} {dn t : Nat} (ht : t < 2 ^ S.cnt) (hd : t &&& dn = 0) : t &&& lfS S dn = t := by
  apply Nat.eq_of_testBit_eq
  intro i
  rw [Nat.testBit_and]
  unfold lfS
  rw [sub_bit, Nat.testBit_two_pow_sub_one]
  by_cases p : t.testBit i = true
  · have h1 : i < S.cnt := by
      rcases Nat.lt_or_ge i S.cnt with q | q
      · exact q
      · rw [Nat.testBit_lt_two_pow (Nat.lt_of_lt_of_le ht (Nat.pow_le_pow_right (by decide) q))] at p
        exact absurd p (by decide)
    have h2 : dn.testBit i = false := by
      have := congrArg (fun z => z.testBit i) hd
      rw [Nat.testBit_and, p, Nat.zero_testBit] at this
      exact this
    rw [p, h2, decide_eq_true h1]; rfl
  · rw [Bool.not_eq_true] at p
    rw [p]; rfl
theorem lfS_in {S : Shp} {dn t : Nat} (h : t &&& lfS S dn = t) : t < 2 ^ S.cnt ∧ t &&& dn = 0 := by
  have h1 : t ≤ lfS S dn := by rw [← h]; exact Nat.and_le_right
  have h2 := lfS_lt S dn
  refine ⟨by omega, ?_⟩
  apply Nat.eq_of_testBit_eq
  intro i
  have := congrArg (fun z => z.testBit i) h
  unfold lfS at this
  rw [Nat.testBit_and, sub_bit] at this
  rw [Nat.testBit_and, Nat.zero_testBit, ← this]
  cases t.testBit i <;> cases dn.testBit i <;> cases (2 ^ S.cnt - 1).testBit i <;> rfl
/-! bounds -/
theorem swT_rm {V : Nat → Nat → Int} (hV : Vok V) {dn s : Nat} (hd : s &&& dn = 0) : ∀ c, swT V s c + 50 * (rmT (dn ||| s) c : Int) ≤ 50 * (rmT dn c : Int)
  | 0 => by show (0 : Int) + 50 * ((0 : Nat) : Int) ≤ 50 * ((0 : Nat) : Int); omega
  | c + 1 => by
    have h1 := swT_rm hV hd c
    have h2 := (hV 1 c).2.2.2.1 rfl
    rw [swT_s, rmT_s, rmT_s]
    by_cases p : s / 2 ^ c % 2 = 1
    · rw [if_pos p, if_pos ((b_orb _ _ _).mpr (Or.inr p)), if_neg (fun z => b_dis hd c ⟨p, z⟩)]
      omega
    · rw [if_neg p]
      by_cases q : dn / 2 ^ c % 2 = 1
      · rw [if_pos q, if_pos ((b_orb _ _ _).mpr (Or.inl q))]; exact h1
      · rw [if_neg q, if_neg (fun z => ((b_orb _ _ _).mp z).elim q p)]; omega
theorem smT_rm {S : Shp} (hk : Sok S) {dn s : Nat} (hd : s &&& dn = 0) {en x : Int} (he : 0 ≤ en ∧ en ≤ 2000) : ∀ c, max 0 (smT S s en x c) + 36000000 * (rmT (dn ||| s) c : Int) ≤ max 0 x + 36000000 * (rmT dn c : Int)
  | 0 => by show max 0 x + 36000000 * ((0 : Nat) : Int) ≤ max 0 x + 36000000 * ((0 : Nat) : Int); omega
  | c + 1 => by
    have h1 := smT_rm hk hd he (x := x) c
    have h2 := pen_2k hk c he
    rw [smT_s, rmT_s, rmT_s]
    by_cases p : s / 2 ^ c % 2 = 1
    · rw [if_pos p, if_pos ((b_orb _ _ _).mpr (Or.inr p)), if_neg (fun z => b_dis hd c ⟨p, z⟩)]
      unfold jn
      split <;> omega
    · rw [if_neg p]
      by_cases q : dn / 2 ^ c % 2 = 1
      · rw [if_pos q, if_pos ((b_orb _ _ _).mpr (Or.inl q))]; exact h1
      · rw [if_neg q, if_neg (fun z => ((b_orb _ _ _).mp z).elim q p)]; omega
theorem endS_le {S : Shp} (hk : Sok S) (s : Nat) (l : Int) {f : Int} (hf : 0 ≤ f) : 0 ≤ endS S s l f ∧ endS S s l f ≤ max f 300 + 60 + swT S.V s S.cnt := by
  have h1 := endS_pos hk s l hf
  have h2 := srT_r hk.v s S.cnt
  have h3 := gapS_r hk.t (l + 1).toNat (sfT S.V s S.cnt).toNat
  refine ⟨h1, ?_⟩
  unfold endS
  split <;> omega
/-- what an entry's time and cost may be -/
def Ent (S : Shp) (dn : Nat) (t c : Int) : Prop := 0 ≤ t ∧ -1000000 ≤ c ∧ t + 110 * (rmT dn S.cnt : Int) ≤ 1180 ∧ max 0 c + 36000000 * (rmT dn S.cnt : Int) ≤ 288000000
theorem Ent.step {S : Shp} (hk : Sok S) {dn s : Nat} {l t c : Int} (h : Ent S dn t c) (h0 : s ≠ 0) (hs : s < 2 ^ S.cnt) (hd : s &&& dn = 0) : Ent S (dn ||| s) (endS S s l t) (smT S s (endS S s l t) c S.cnt) := by
  obtain ⟨h1, h2, h3, h4⟩ := h
  have a1 := endS_le hk s l h1
  have a2 := swT_rm hk.v hd S.cnt
  have a3 := rmT_lt h0 hd S.cnt hs
  have a4 := rmT_le dn S.cnt
  have a5 := hk.c
  have a7 : 0 ≤ swT S.V s S.cnt := (swT_r hk.v s S.cnt).1
  have a6 : endS S s l t ≤ 2000 := by omega
  have a8 := smT_rm hk hd (x := c) ⟨a1.1, a6⟩ S.cnt
  have a9 : c ≤ smT S s (endS S s l t) c S.cnt := by
    rw [smT_fld]
    exact fld_ge _ (fun j _ _ ho => pen_pos hk.v j ho a1.1)
  exact ⟨a1.1, by omega, by omega, by omega⟩
theorem Ent.r {S : Shp} {dn : Nat} {t c : Int} (h : Ent S dn t c) : (0 ≤ t ∧ t ≤ 1180) ∧ (-1000000 ≤ c ∧ c ≤ 288000000) := by
  obtain ⟨h1, h2, h3, h4⟩ := h
  omega
theorem neuM_r (S : Shp) : -1000000 ≤ neuM S ∧ neuM S ≤ 0 := by unfold neuM; split <;> omega
theorem Ent.start {S : Shp} (hk : Sok S) (dn : Nat) : Ent S dn 0 (neuM S) := by
  have a1 := neuM_r S
  have a2 := rmT_le dn S.cnt
  have a3 := hk.c
  exact ⟨by omega, by omega, by omega, by omega⟩
theorem rm_ex {dn : Nat} : ∀ c, rmT dn c ≠ 0 → ∃ j, j < c ∧ ¬ dn / 2 ^ j % 2 = 1
  | 0, h => absurd rfl h
  | c + 1, h => by
    by_cases p : dn / 2 ^ c % 2 = 1
    · rw [rmT_s, if_pos p] at h
      obtain ⟨j, h1, h2⟩ := rm_ex c h
      exact ⟨j, by omega, h2⟩
    · exact ⟨c, by omega, p⟩
theorem pow_dis {dn j : Nat} (h : ¬ dn / 2 ^ j % 2 = 1) : 2 ^ j &&& dn = 0 := by
  apply Nat.eq_of_testBit_eq
  intro i
  rw [Nat.testBit_and, Nat.zero_testBit, Nat.testBit_two_pow]
  by_cases p : j = i
  · rw [← p]
    rw [b_bit, Bool.not_eq_true] at h
    rw [h, Bool.and_false]
  · rw [decide_eq_false p]; rfl
theorem okS_one {S : Shp} (hk : Sok S) {j : Nat} (hj : j < S.cnt) : okS S (2 ^ j) = true := by
  have h1 : (2 ^ j) ≠ 0 := Nat.pos_iff_ne_zero.mp Nat.one_le_two_pow
  have h2 := hk.c
  have h3 := hk.v 0 j
  unfold okS
  rw [pw2_pow (by omega), one_fam hk hj, Bool.or_true, Bool.and_true, decide_eq_true (by omega), Bool.and_true, bne_iff_ne]
  exact h1
theorem ex_alw {S : Shp} (hk : Sok S) {fi : Int} (hf : fi = -1 ∨ (0 ≤ fi ∧ fi < S.cnt)) {dn : Nat} (hd : dn < 2 ^ S.cnt) (h : dn ≠ alS S) : ∃ s, s < 2 ^ S.cnt ∧ alw S fi dn s = true := by
  by_cases z : dn = 0 ∧ fi ≠ -1
  · have hj : fi.toNat < S.cnt := by omega
    refine ⟨2 ^ fi.toNat, Nat.pow_lt_pow_right (by decide) hj, alw_mk (okS_one hk hj) (by rw [z.1, Nat.and_zero]) (Or.inr (Or.inr ((b_pow _ _).mpr rfl)))⟩
  · obtain ⟨j, h1, h2⟩ := rm_ex (dn := dn) S.cnt (fun e => h (rmT_zero hd e))
    refine ⟨2 ^ j, Nat.pow_lt_pow_right (by decide) h1, alw_mk (okS_one hk h1) (pow_dis h2) ?_⟩
    by_cases y : dn = 0
    · exact Or.inr (Or.inl (by omega))
    · exact Or.inl y
theorem fn_fin {S : Shp} (hk : Sok S) {fi : Int} (hf : fi = -1 ∨ (0 ≤ fi ∧ fi < S.cnt)) : ∀ (k dn : Nat) (l t c : Int), rmT dn S.cnt ≤ k → dn < 2 ^ S.cnt → Ent S dn t c → fn S fi dn l t c ≤ 288000000
  | 0, dn, l, t, c, h, hd, he => by
    rw [fn_all (rmT_zero hd (by omega))]
    exact he.r.2.2
  | k + 1, dn, l, t, c, h, hd, he => by
    by_cases z : dn = alS S
    · rw [fn_all z]
      exact he.r.2.2
    · obtain ⟨s, h1, h2⟩ := ex_alw hk hf hd z
      obtain ⟨h3, h4, -⟩ := alw_i h2
      have h5 := okS_i h3
      rw [fn_eq hk.c hd z]
      refine Int.le_trans (mnS_le _ h1 h2) ?_
      have h6 := rmT_lt h5.1 h4 S.cnt h1
      exact fn_fin hk hf k _ _ _ _ (by omega) (or_lt hd h1) (he.step hk h5.1 h1 h4)
theorem fn_le {S : Shp} (hk : Sok S) {fi : Int} (hf : fi = -1 ∨ (0 ≤ fi ∧ fi < S.cnt)) {dn : Nat} {l t c : Int} (hd : dn < 2 ^ S.cnt) (he : Ent S dn t c) : fn S fi dn l t c ≤ 288000000 := fn_fin hk hf _ _ _ _ _ (Nat.le_refl _) hd he
theorem INF_v : INF = 1000000000000000 := rfl
/-- the least one is reached -/
theorem fn_at {S : Shp} (hk : Sok S) {fi : Int} (hf : fi = -1 ∨ (0 ≤ fi ∧ fi < S.cnt)) {dn : Nat} {l t c : Int} (hd : dn < 2 ^ S.cnt) (he : Ent S dn t c) (z : dn ≠ alS S) : ∃ s, s < 2 ^ S.cnt ∧ alw S fi dn s = true ∧ fn S fi (dn ||| s) (sfT S.V s S.cnt) (endS S s l t) (smT S s (endS S s l t) c S.cnt) = fn S fi dn l t c := by
  have h1 := fn_le hk hf (l := l) hd he
  rw [fn_eq hk.c hd z] at h1 ⊢
  exact mnS_at _ (by rw [INF_v]; omega)
theorem fn_step {S : Shp} (hk : Sok S) {fi : Int} {dn : Nat} {l t c : Int} (hd : dn < 2 ^ S.cnt) {s : Nat} (hs : s < 2 ^ S.cnt) (ha : alw S fi dn s = true) : fn S fi dn l t c ≤ fn S fi (dn ||| s) (sfT S.V s S.cnt) (endS S s l t) (smT S s (endS S s l t) c S.cnt) := by
  rw [fn_eq hk.c hd (not_all hs ha)]
  exact mnS_le _ hs ha
theorem smT_ge1 {S : Shp} (hk : Sok S) {s : Nat} {en x : Int} (he : 0 ≤ en ∧ en ≤ 2000) (ho : 4 ≤ S.ob) (h0 : s ≠ 0) : ∀ c, s < 2 ^ c → -500 ≤ smT S s en x c
  | 0, h => by rw [Nat.pow_zero] at h; omega
  | c + 1, h => by
    have h2 := pen_2k hk c he
    rw [smT_s]
    by_cases p : s / 2 ^ c % 2 = 1
    · rw [if_pos p]; unfold jn; rw [if_pos ho]; omega
    · rw [if_neg p]; exact smT_ge1 hk he ho h0 c (b_less h p)
theorem jn_comm (S : Shp) (a b : Int) : jn S a b = jn S b a := by unfold jn; split <;> omega
theorem jn_neuM (S : Shp) {c : Int} (h : -1000000 ≤ c) : jn S (neuM S) c = c := by unfold jn neuM; split <;> omega
/-- the cost of a set by itself, joined to what there was -/
theorem smT_jn {S : Shp} {s : Nat} {en c : Int} (h : -1000000 ≤ c) : jn S c (smT S s en (neuM S) S.cnt) = smT S s en c S.cnt := by
  rw [jn_comm, smT_fld, smT_fld, ← fld_jn, jn_neuM S h]
theorem smT_neu {S : Shp} (hk : Sok S) {s : Nat} {en : Int} (he : 0 ≤ en ∧ en ≤ 2000) (h0 : s ≠ 0) (hs : s < 2 ^ S.cnt) : smT S s en (neuM S) S.cnt = smT S s en (neu S) S.cnt := by
  by_cases ho : 4 ≤ S.ob
  · have e : neuM S = jn S (neu S) (neuM S) := by unfold jn neu neuM; rw [if_pos ho, if_pos ho, if_pos ho]; omega
    have h1 := smT_ge1 hk (x := neu S) he ho h0 S.cnt hs
    rw [e, smT_fld, fld_jn, ← smT_fld]
    unfold jn neuM
    rw [if_pos ho, if_pos ho]
    omega
  · have e : neuM S = neu S := by unfold neu neuM; rw [if_neg ho, if_neg ho]
    rw [e]
theorem fn_neu {S : Shp} (hk : Sok S) {fi : Int} {dn : Nat} {l t : Int} (hd : dn < 2 ^ S.cnt) (z : dn ≠ alS S) (ht : 0 ≤ t ∧ t ≤ 1180) : fn S fi dn l t (neuM S) = fn S fi dn l t (neu S) := by
  rw [fn_eq hk.c hd z, fn_eq hk.c hd z]
  refine mnS_congr _ (fun s hs ha => ?_)
  obtain ⟨h3, h4, -⟩ := alw_i ha
  have a1 := endS_le hk s l ht.1
  have a2 := swT_r hk.v s S.cnt
  have a3 := hk.c
  rw [smT_neu hk ⟨a1.1, by omega⟩ (okS_i h3).1 hs]
/-! the table -/
def TbI (S : Shp) (fi F0 : Int) (le fr un : Nat → Int) : Prop := ∀ k, k < 1024 → (0 ≤ fr k ∧ fr k ≤ 1200) ∧ (-1 ≤ un k ∧ un k ≤ 1199) ∧ ∀ t : Nat, t < 1200 → le (1200 * k + t) = 2000000000 ∨ ((fr k ≤ (t : Int) ∧ (t : Int) ≤ un k) ∧ (4 ≤ k ∧ k < 4 * 2 ^ S.cnt) ∧ Ent S (k / 4) (t : Int) (le (1200 * k + t)) ∧ F0 ≤ fn S fi (k / 4) ((k % 4 : Nat) : Int) (t : Int) (le (1200 * k + t)))
theorem TbI.inv {S : Shp} {fi F0 : Int} {le fr un : Nat → Int} (h : TbI S fi F0 le fr un) : LInv le fr un := fun k hk => by
  obtain ⟨h1, h2, h3⟩ := h k hk
  refine ⟨h1, h2, fun t ht z => ?_⟩
  rcases h3 t ht with y | ⟨y, -⟩
  · exact y
  · omega
theorem TbI.r {S : Shp} {fi F0 : Int} {le fr un : Nat → Int} (h : TbI S fi F0 le fr un) {k t : Nat} (hk : k < 1024) (ht : t < 1200) : -1000000 ≤ le (1200 * k + t) ∧ le (1200 * k + t) ≤ 2000000000 := by
  rcases (h k hk).2.2 t ht with y | ⟨-, -, y, -⟩
  · omega
  · have := y.r; omega
theorem TbI.reach {S : Shp} {fi F0 : Int} {le fr un : Nat → Int} (h : TbI S fi F0 le fr un) {k t : Nat} {c : Int} (hk : k < 1024) (hk4 : 4 ≤ k ∧ k < 4 * 2 ^ S.cnt) (ht : t < 1200) (hE : Ent S (k / 4) (t : Int) c) (hF : F0 ≤ fn S fi (k / 4) ((k % 4 : Nat) : Int) (t : Int) c) : TbI S fi F0 (upz le (1200 * k + t) (min c (le (1200 * k + t)))) (upz fr k (min (t : Int) (fr k))) (upz un k (max (t : Int) (un k))) := fun k' hk' => by
  obtain ⟨h1, h2, h3⟩ := h k' hk'
  by_cases z : k' = k
  · rw [z] at h1 h2 h3 ⊢
    rw [upz_eq, upz_eq]
    refine ⟨by omega, by omega, fun t' ht' => ?_⟩
    by_cases y : t' = t
    · rw [y, upz_eq]
      have hr := hE.r
      rcases h3 t ht with q | ⟨q1, q2, q3, q4⟩
      · right
        rw [q, show min c 2000000000 = c by omega]
        exact ⟨by omega, hk4, hE, hF⟩
      · right
        by_cases w : c ≤ le (1200 * k + t)
        · rw [show min c (le (1200 * k + t)) = c by omega]
          exact ⟨by omega, hk4, hE, hF⟩
        · rw [show min c (le (1200 * k + t)) = le (1200 * k + t) by omega]
          exact ⟨by omega, hk4, q3, q4⟩
    · rw [upz_ne (by omega)]
      rcases h3 t' ht' with q | ⟨q1, q2, q3, q4⟩
      · exact Or.inl q
      · exact Or.inr ⟨by omega, hk4, q3, q4⟩
  · rw [upz_ne z, upz_ne z]
    refine ⟨h1, h2, fun t' ht' => ?_⟩
    rw [upz_ne (by omega)]
    exact h3 t' ht'
theorem TbI.clear {S : Shp} {fi F0 : Int} {le fr un : Nat → Int} (h1 : ∀ i, i < 1228800 → le i = 2000000000) (h2 : ∀ k, k < 1024 → fr k = 1200 ∧ un k = -1) : TbI S fi F0 le fr un := fun k hk => by
  have a := h2 k hk
  exact ⟨by omega, by omega, fun t ht => Or.inl (h1 _ (by omega))⟩
/-- what going on behind a set leaves alone -/
def GoR (dn : Nat) (le fr un le' fr' un' : Nat → Int) : Prop := (∀ i, i < 1228800 → le' i ≤ le i) ∧ (∀ i, i < 4800 * (dn + 1) → le' i = le i) ∧ ∀ k, k < 4 * (dn + 1) → fr' k = fr k ∧ un' k = un k
theorem GoR.rf (dn : Nat) (le fr un : Nat → Int) : GoR dn le fr un le fr un := ⟨fun _ _ => Int.le_refl _, fun _ _ => rfl, fun _ _ => ⟨rfl, rfl⟩⟩
theorem GoR.reach {dn : Nat} {le fr un le' fr' un' : Nat → Int} (h : GoR dn le fr un le' fr' un') {k t : Nat} (hk : 4 * (dn + 1) ≤ k) {c a b : Int} : GoR dn le fr un (upz le' (1200 * k + t) (min c (le' (1200 * k + t)))) (upz fr' k a) (upz un' k b) := by
  obtain ⟨h1, h2, h3⟩ := h
  refine ⟨fun i hi => ?_, fun i hi => ?_, fun k' hk' => ?_⟩
  · by_cases z : i = 1200 * k + t
    · rw [z, upz_eq]
      have := h1 (1200 * k + t) (by omega)
      omega
    · rw [upz_ne z]; exact h1 i hi
  · rw [upz_ne (by omega)]; exact h2 i hi
  · rw [upz_ne (by omega), upz_ne (by omega)]; exact h3 k' hk'
/-- what stands where set s leads -/
def rcI (S : Shp) (dn : Nat) (l f : Int) (s : Nat) : Nat := 1200 * (4 * (dn ||| s) + (sfT S.V s S.cnt).toNat) + (endS S s l f).toNat
def Rch (S : Shp) (dn : Nat) (l f c : Int) (le : Nat → Int) (s : Nat) : Prop := le (rcI S dn l f s) ≤ smT S s (endS S s l f) c S.cnt
theorem Rch.mono {S : Shp} {dn : Nat} {l f c : Int} {le le' : Nat → Int} {s : Nat} (h : Rch S dn l f c le s) (hle : le' (rcI S dn l f s) ≤ le (rcI S dn l f s)) : Rch S dn l f c le' s := Int.le_trans hle h
/-- where set s leads, its place and what it is worth -/
theorem go_to {S : Shp} (hk : Sok S) {fi F0 : Int} {dn s : Nat} {l t c : Int} (hd : dn < 2 ^ S.cnt) (hs : s < 2 ^ S.cnt) (ha : alw S fi dn s = true) (he : Ent S dn t c) (hF : F0 ≤ fn S fi dn l t c) :
    ∃ k t' : Nat, k = 4 * (dn ||| s) + (sfT S.V s S.cnt).toNat ∧ t' = (endS S s l t).toNat ∧ (sfT S.V s S.cnt) = ((sfT S.V s S.cnt).toNat : Int) ∧ endS S s l t = (t' : Int) ∧ rcI S dn l t s = 1200 * k + t' ∧ (sfT S.V s S.cnt).toNat < 4 ∧ k < 1024 ∧ (4 ≤ k ∧ k < 4 * 2 ^ S.cnt) ∧ 4 * (dn + 1) ≤ k ∧ t' < 1200 ∧ k / 4 = dn ||| s ∧ ((k % 4 : Nat) : Int) = sfT S.V s S.cnt ∧ Ent S (k / 4) (t' : Int) (smT S s (endS S s l t) c S.cnt) ∧ F0 ≤ fn S fi (k / 4) ((k % 4 : Nat) : Int) (t' : Int) (smT S s (endS S s l t) c S.cnt) := by
  obtain ⟨h3, h4, -⟩ := alw_i ha
  have h5 := okS_i h3
  have h6 := sfT_r hk.v s S.cnt
  have h7 := sfT_le3 hk.v h5.1 S.cnt hs
  have h8 := or_lt hd hs
  have h9 := or_gt (S := S) h5.1 h4
  have hE := he.step hk (l := l) h5.1 hs h4
  have hr := hE.r
  have hp := nt_pow_r hk.c
  have hm := fn_step hk (l := l) (t := t) (c := c) hd hs ha
  have e1 : (4 * (dn ||| s) + (sfT S.V s S.cnt).toNat) / 4 = dn ||| s := by omega
  have e2 : (((4 * (dn ||| s) + (sfT S.V s S.cnt).toNat) % 4 : Nat) : Int) = sfT S.V s S.cnt := by omega
  have e3 : ((endS S s l t).toNat : Int) = endS S s l t := by omega
  refine ⟨_, _, rfl, rfl, by omega, e3.symm, rfl, by omega, by omega, ⟨by omega, by omega⟩, by omega, by omega, e1, e2, ?_, ?_⟩
  · rw [e1, e3]; exact hE
  · rw [e1, e2, e3]; exact Int.le_trans hF hm
/-- an entry behind k that is worth no more than v -/
def Xp (S : Shp) (fi : Int) (le : Nat → Int) (k : Nat) (v : Int) : Prop := ∃ k' t' : Nat, k < k' ∧ k' < 4 * 2 ^ S.cnt ∧ t' < 1200 ∧ le (1200 * k' + t') < 2000000000 ∧ fn S fi (k' / 4) ((k' % 4 : Nat) : Int) (t' : Int) (le (1200 * k' + t')) ≤ v
theorem Xp.mono {S : Shp} (hk : Sok S) {fi : Int} {le le' : Nat → Int} {k : Nat} {v v' : Int} (h : Xp S fi le k v) (hl : ∀ i, i < 1228800 → le' i ≤ le i) (hv : v ≤ v') : Xp S fi le' k v' := by
  obtain ⟨k', t', h1, h2, h3, h4, h5⟩ := h
  have hp := nt_pow_r hk.c
  have a := hl (1200 * k' + t') (by omega)
  exact ⟨k', t', h1, h2, h3, by omega, Int.le_trans (fn_mono hk.v (Int.le_refl _) a) (Int.le_trans h5 hv)⟩
theorem Xp.of {S : Shp} (hk : Sok S) {fi : Int} (hf : fi = -1 ∨ (0 ≤ fi ∧ fi < S.cnt)) {dn : Nat} {l t c : Int} (hd : dn < 2 ^ S.cnt) (he : Ent S dn t c) (z : dn ≠ alS S) {le : Nat → Int} (hR : ∀ s, s < 2 ^ S.cnt → alw S fi dn s = true → Rch S dn l t c le s) : Xp S fi le (4 * dn + 3) (fn S fi dn l t c) := by
  obtain ⟨s, h1, h2, h3⟩ := fn_at hk hf (l := l) hd he z
  obtain ⟨k, t', e1, e2, e3, e4, e5, e6, e7, e8, e9, e10, e11, e12, e13, e14⟩ := go_to hk (F0 := fn S fi dn l t c) (l := l) hd h1 h2 he (Int.le_refl _)
  have hc := hR s h1 h2
  unfold Rch at hc
  rw [e5] at hc
  have hr := e13.r
  refine ⟨k, t', by omega, e8.2, e10, by omega, ?_⟩
  rw [← h3, e11, e12, e4]
  rw [e4] at hc
  exact fn_mono hk.v (Int.le_refl _) hc
/-- an entry at (k, t) or behind -/
def Cm (S : Shp) (fi F0 : Int) (le : Nat → Int) (k t : Nat) : Prop := Xp S fi le k F0 ∨ ∃ t' : Nat, t ≤ t' ∧ t' < 1200 ∧ le (1200 * k + t') < 2000000000 ∧ fn S fi (k / 4) ((k % 4 : Nat) : Int) (t' : Int) (le (1200 * k + t')) ≤ F0
theorem Xp.cm {S : Shp} {fi F0 : Int} {le : Nat → Int} {k : Nat} (h : Xp S fi le k F0) : Cm S fi F0 le (k + 1) 0 := by
  obtain ⟨k', t', h1, h2, h3, h4, h5⟩ := h
  by_cases z : k' = k + 1
  · rw [z] at h4 h5
    exact Or.inr ⟨t', Nat.zero_le _, h3, h4, h5⟩
  · exact Or.inl ⟨k', t', by omega, h2, h3, h4, h5⟩
theorem Xp.back {S : Shp} {fi F0 : Int} {le : Nat → Int} {k j : Nat} (h : Xp S fi le k F0) (hj : j ≤ k) : Xp S fi le j F0 := by
  obtain ⟨k', t', h1, h2⟩ := h
  exact ⟨k', t', by omega, h2⟩
/-- the bound that prunes -/
def Bnd (S : Shp) (fi : Int) (le : Nat → Int) (k t : Nat) (b : Int) : Prop := b = 2000000000 ∨ ∃ t0 : Nat, t0 < t ∧ Xp S fi le k (fn S fi (k / 4) ((k % 4 : Nat) : Int) (t0 : Int) b)
theorem Cm.skip {S : Shp} (hk : Sok S) {fi F0 : Int} {le : Nat → Int} {k t : Nat} {b : Int} (h : Cm S fi F0 le k t) (hb : Bnd S fi le k t b) (hc : b ≤ le (1200 * k + t)) : Cm S fi F0 le k (t + 1) ∧ Bnd S fi le k (t + 1) b := by
  refine ⟨?_, ?_⟩
  · rcases h with h | ⟨t', h1, h2, h3, h4⟩
    · exact Or.inl h
    · by_cases z : t' = t
      · rw [z] at h3 h4
        rcases hb with e | ⟨t0, g1, g2⟩
        · omega
        · left
          exact g2.mono hk (fun _ _ => Int.le_refl _) (Int.le_trans (fn_mono hk.v (by omega) hc) h4)
      · exact Or.inr ⟨t', by omega, h2, h3, h4⟩
  · rcases hb with e | ⟨t0, g1, g2⟩
    · exact Or.inl e
    · exact Or.inr ⟨t0, by omega, g2⟩
theorem Cm.go {S : Shp} (hk : Sok S) {fi F0 : Int} {le fr un le' fr' un' : Nat → Int} {k t : Nat} (hk4 : k < 1024) (ht : t < 1200) (h : Cm S fi F0 le k t) (hG : GoR (k / 4) le fr un le' fr' un') (hX : Xp S fi le' (4 * (k / 4) + 3) (fn S fi (k / 4) ((k % 4 : Nat) : Int) (t : Int) (le (1200 * k + t)))) : Cm S fi F0 le' k (t + 1) ∧ Bnd S fi le' k (t + 1) (le (1200 * k + t)) := by
  have hX' : Xp S fi le' k (fn S fi (k / 4) ((k % 4 : Nat) : Int) (t : Int) (le (1200 * k + t))) := hX.back (by omega)
  refine ⟨?_, Or.inr ⟨t, by omega, hX'⟩⟩
  rcases h with h | ⟨t', h1, h2, h3, h4⟩
  · exact Or.inl (h.mono hk hG.1 (Int.le_refl _))
  · by_cases z : t' = t
    · rw [z] at h4
      exact Or.inl (hX'.mono hk (fun _ _ => Int.le_refl _) h4)
    · refine Or.inr ⟨t', by omega, h2, ?_, ?_⟩
      · rw [hG.2.1 _ (by omega)]; exact h3
      · rw [hG.2.1 _ (by omega)]; exact h4
