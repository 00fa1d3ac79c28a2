/-! rules: insertion and counting give the same sequence -/
theorem cmpz_anti (x y : Int) : cmpz y x = - cmpz x y := by
  unfold cmpz
  split <;> (try split) <;> (try split) <;> (try split) <;> omega
def dF (S : Shp) (a : Nat) : Int := dueTo S.V (S.V 0 a) S.cnt
theorem dF_eq {S : Shp} {a b : Nat} (h : S.V 0 a = S.V 0 b) : dF S a = dF S b := by unfold dF; rw [h]
theorem cmpF_lt {S : Shp} {a b : Nat} : cmpF S a b < 0 ↔ (dF S a < dF S b ∨ (dF S a = dF S b ∧ (S.V 0 a < S.V 0 b ∨ (S.V 0 a = S.V 0 b ∧ S.V 3 a < S.V 3 b)))) := by
  have h0 := dF_eq (S := S) (a := a) (b := b)
  unfold cmpF
  by_cases q : S.V 0 a = S.V 0 b
  · rw [if_pos q, cmpz_lt]
    have := h0 q
    omega
  · rw [if_neg q]
    by_cases p : dueTo S.V (S.V 0 a) S.cnt = dueTo S.V (S.V 0 b) S.cnt
    · rw [if_pos p, cmpz_lt]
      have p' : dF S a = dF S b := p
      omega
    · rw [if_neg p, cmpz_lt]
      have p' : ¬ dF S a = dF S b := p
      show dF S a < dF S b ↔ _
      omega
theorem cmpF_eq {S : Shp} {a b : Nat} : cmpF S a b = 0 ↔ (S.V 0 a = S.V 0 b ∧ S.V 3 a = S.V 3 b) := by
  unfold cmpF
  by_cases q : S.V 0 a = S.V 0 b
  · rw [if_pos q, cmpz_eq]
    exact ⟨fun z => ⟨q, z⟩, fun z => z.2⟩
  · rw [if_neg q]
    by_cases p : dueTo S.V (S.V 0 a) S.cnt = dueTo S.V (S.V 0 b) S.cnt
    · rw [if_pos p, cmpz_eq]
      exact ⟨fun z => absurd z q, fun z => absurd z.1 q⟩
    · rw [if_neg p, cmpz_eq]
      exact ⟨fun z => absurd z p, fun z => absurd z.1 q⟩
theorem cmpR_anti (S : Shp) (rule a b : Nat) : cmpR S rule b a = - cmpR S rule a b := by
  unfold cmpR
  split
  · exact cmpz_anti _ _
  · split
    · exact cmpz_anti _ _
    · split
      · exact cmpz_anti _ _
      · unfold cmpF
        by_cases q : S.V 0 a = S.V 0 b
        · rw [if_pos q, if_pos q.symm]; exact cmpz_anti _ _
        · rw [if_neg q, if_neg (fun z => q z.symm)]
          by_cases p : dueTo S.V (S.V 0 a) S.cnt = dueTo S.V (S.V 0 b) S.cnt
          · rw [if_pos p, if_pos p.symm]; exact cmpz_anti _ _
          · rw [if_neg p, if_neg (fun z => p z.symm)]; exact cmpz_anti _ _
theorem frac_le {ta wa tb wb tx wx : Int} (h1 : ta * wb ≤ tb * wa) (h2 : tb * wx ≤ tx * wb) (pa : 0 ≤ wa) (pb : 0 < wb) (px : 0 ≤ wx) : ta * wx ≤ tx * wa := by
  have a1 := Int.mul_le_mul_of_nonneg_right h1 px
  have a2 := Int.mul_le_mul_of_nonneg_right h2 pa
  have e1 : ta * wb * wx = wb * (ta * wx) := by grind
  have e2 : tb * wa * wx = tb * wx * wa := by grind
  have e3 : tx * wb * wa = wb * (tx * wa) := by grind
  rw [e1, e2] at a1
  rw [e3] at a2
  exact Int.le_of_mul_le_mul_left (Int.le_trans a1 a2) pb
theorem frac_lt1 {ta wa tb wb tx wx : Int} (h1 : ta * wb < tb * wa) (h2 : tb * wx ≤ tx * wb) (pa : 0 ≤ wa) (pb : 0 < wb) (px : 0 < wx) : ta * wx < tx * wa := by
  have a1 := Int.mul_lt_mul_of_pos_right h1 px
  have a2 := Int.mul_le_mul_of_nonneg_right h2 pa
  have e1 : ta * wb * wx = wb * (ta * wx) := by grind
  have e2 : tb * wa * wx = tb * wx * wa := by grind
  have e3 : tx * wb * wa = wb * (tx * wa) := by grind
  rw [e1, e2] at a1
  rw [e3] at a2
  exact Int.lt_of_mul_lt_mul_left (Int.lt_of_lt_of_le a1 a2) (Int.le_of_lt pb)
theorem frac_lt2 {ta wa tb wb tx wx : Int} (h1 : ta * wb ≤ tb * wa) (h2 : tb * wx < tx * wb) (pa : 0 < wa) (pb : 0 < wb) (px : 0 ≤ wx) : ta * wx < tx * wa := by
  have a1 := Int.mul_le_mul_of_nonneg_right h1 px
  have a2 := Int.mul_lt_mul_of_pos_right h2 pa
  have e1 : ta * wb * wx = wb * (ta * wx) := by grind
  have e2 : tb * wa * wx = tb * wx * wa := by grind
  have e3 : tx * wb * wa = wb * (tx * wa) := by grind
  rw [e1, e2] at a1
  rw [e3] at a2
  exact Int.lt_of_mul_lt_mul_left (Int.lt_of_le_of_lt a1 a2) (Int.le_of_lt pb)
theorem cmpR_trans {S : Shp} (hk : Sok S) (rule : Nat) {a b x : Nat} (ha : a < S.cnt) (hb : b < S.cnt) (hx : x < S.cnt) (h1 : cmpR S rule a b ≤ 0) (h2 : cmpR S rule b x ≤ 0) : cmpR S rule a x ≤ 0 ∧ ((cmpR S rule a b < 0 ∨ cmpR S rule b x < 0) → cmpR S rule a x < 0) := by
  by_cases r0 : rule = 0
  · have e : ∀ p q, cmpR S rule p q = cmpz (S.V 2 p) (S.V 2 q) := fun p q => if_pos r0
    simp only [e, cmpz_le, cmpz_lt] at h1 h2 ⊢
    omega
  · by_cases r1 : rule = 1
    · have e : ∀ p q, cmpR S rule p q = cmpz (S.V 3 p) (S.V 3 q) := fun p q => by unfold cmpR; rw [if_neg r0, if_pos r1]
      simp only [e, cmpz_le, cmpz_lt] at h1 h2 ⊢
      omega
    · by_cases r2 : rule = 2
      · have e : ∀ p q, cmpR S rule p q = cmpz (S.V 1 p * S.V 4 q) (S.V 1 q * S.V 4 p) := fun p q => by unfold cmpR; rw [if_neg r0, if_neg r1, if_pos r2]
        simp only [e, cmpz_le, cmpz_lt] at h1 h2 ⊢
        have pa := (hk.p a ha).2
        have pb := (hk.p b hb).2
        have px := (hk.p x hx).2
        refine ⟨frac_le h1 h2 (by omega) (by omega) (by omega), fun z => ?_⟩
        rcases z with z | z
        · exact frac_lt1 z h2 (by omega) (by omega) (by omega)
        · exact frac_lt2 h1 z (by omega) (by omega) (by omega)
      · have e : ∀ p q, cmpR S rule p q = cmpF S p q := fun p q => by unfold cmpR; rw [if_neg r0, if_neg r1, if_neg r2]
        simp only [e] at h1 h2 ⊢
        have i1 := cmpF_lt (S := S) (a := a) (b := b)
        have i2 := cmpF_lt (S := S) (a := b) (b := x)
        have i3 := cmpF_lt (S := S) (a := a) (b := x)
        have j1 := cmpF_eq (S := S) (a := a) (b := b)
        have j2 := cmpF_eq (S := S) (a := b) (b := x)
        have j3 := cmpF_eq (S := S) (a := a) (b := x)
        have d1 := dF_eq (S := S) (a := a) (b := b)
        have d2 := dF_eq (S := S) (a := b) (b := x)
        have d3 := dF_eq (S := S) (a := a) (b := x)
        have k1 : (dF S a < dF S b ∨ (dF S a = dF S b ∧ (S.V 0 a < S.V 0 b ∨ (S.V 0 a = S.V 0 b ∧ S.V 3 a < S.V 3 b)))) ∨ (S.V 0 a = S.V 0 b ∧ S.V 3 a = S.V 3 b) := by
          rcases (show cmpF S a b < 0 ∨ cmpF S a b = 0 by omega) with z | z
          · exact Or.inl (i1.mp z)
          · exact Or.inr (j1.mp z)
        have k2 : (dF S b < dF S x ∨ (dF S b = dF S x ∧ (S.V 0 b < S.V 0 x ∨ (S.V 0 b = S.V 0 x ∧ S.V 3 b < S.V 3 x)))) ∨ (S.V 0 b = S.V 0 x ∧ S.V 3 b = S.V 3 x) := by
          rcases (show cmpF S b x < 0 ∨ cmpF S b x = 0 by omega) with z | z
          · exact Or.inl (i2.mp z)
          · exact Or.inr (j2.mp z)
        have st : ∀ p : Prop, (p → (dF S a < dF S x ∨ (dF S a = dF S x ∧ (S.V 0 a < S.V 0 x ∨ (S.V 0 a = S.V 0 x ∧ S.V 3 a < S.V 3 x))))) → p → cmpF S a x < 0 := fun p hp q => i3.mpr (hp q)
        refine ⟨?_, fun z => ?_⟩
        · by_cases e : (S.V 0 a = S.V 0 b ∧ S.V 3 a = S.V 3 b) ∧ (S.V 0 b = S.V 0 x ∧ S.V 3 b = S.V 3 x)
          · have := j3.mpr ⟨by omega, by omega⟩
            omega
          · have := i3.mpr (by omega)
            omega
        · refine i3.mpr ?_
          rcases z with z | z
          · have := i1.mp z
            omega
          · have := i2.mp z
            omega
/-- job a is ahead of job b by a rule -/
abbrev ahR (S : Shp) (rule a b : Nat) : Prop := cmpR S rule a b < 0 ∨ (cmpR S rule a b = 0 ∧ a < b)
theorem ahR_trans {S : Shp} (hk : Sok S) {rule a b x : Nat} (ha : a < S.cnt) (hb : b < S.cnt) (hx : x < S.cnt) (h1 : ahR S rule a b) (h2 : ahR S rule b x) : ahR S rule a x := by
  unfold ahR at *
  obtain ⟨t1, t2⟩ := cmpR_trans hk rule ha hb hx (by omega) (by omega)
  by_cases z : cmpR S rule a b < 0 ∨ cmpR S rule b x < 0
  · exact Or.inl (t2 z)
  · rcases (show cmpR S rule a x < 0 ∨ cmpR S rule a x = 0 by omega) with y | y
    · exact Or.inl y
    · exact Or.inr ⟨y, by omega⟩
theorem ahR_irr {S : Shp} {rule a b : Nat} (h1 : ahR S rule a b) (h2 : ahR S rule b a) : False := by
  unfold ahR at *
  have := cmpR_anti S rule a b
  omega
theorem ord_ah {S : Shp} (hk : Sok S) {rule : Nat} (o : Nat → Int) : ∀ p q, p < q → q < S.cnt → ahR S rule (jb (ordR S rule o S.cnt) p) (jb (ordR S rule o S.cnt) q) :=
  (ordR_ok (le := ahR S rule) (c := S.cnt) (fun a b h1 _ h3 => by unfold ahR; have := cmpR_anti S rule a b; omega) (fun a b h1 _ h3 => by unfold ahR; omega) (fun a b x ha hb hx h1 h2 => ahR_trans hk ha hb hx h1 h2) S.cnt (Nat.le_refl _)).2
/-- how many of the first k jobs are ahead of j, as the model counts -/
def cAh (S : Shp) (rule j : Nat) : Nat → Nat
  | 0 => 0
  | k + 1 => if k ≠ j ∧ ahR S rule k j then cAh S rule j k + 1 else cAh S rule j k
theorem cAh_le (S : Shp) (rule j : Nat) : ∀ k, cAh S rule j k ≤ k
  | 0 => Nat.le_refl _
  | k + 1 => by
    have := cAh_le S rule j k
    unfold cAh
    split <;> omega
theorem cAh_rm {S : Shp} {rule j s : Nat} {c : Nat} (h : ∀ i, i < c → ((i ≠ j ∧ ahR S rule i j) ↔ s / 2 ^ i % 2 = 1)) : ∀ k, k ≤ c → cAh S rule j k + rmT s k = k
  | 0, _ => rfl
  | k + 1, hk => by
    have h1 := cAh_rm h k (by omega)
    have h2 := h k (by omega)
    unfold cAh rmT
    by_cases q : s / 2 ^ k % 2 = 1
    · rw [if_pos (h2.mpr q), if_pos q]; omega
    · rw [if_neg (fun z => q (h2.mp z)), if_neg q]; omega
theorem ord_inj {S : Shp} (hc : S.cnt ≤ 8) {rule : Nat} {o : Nat → Int} (ho : ∀ j, 0 ≤ o j ∧ o j ≤ 7) : Inj S.cnt S.cnt (ordR S rule o S.cnt) := by
  have h := Sq.ord hc (rule := rule) ho
  refine ⟨fun k hk => ?_, fun k k' hk hk' e => ?_⟩
  · have a := h.2.1 k hk
    have b := h.1 k
    unfold jb
    omega
  · have a := h.1 k
    have b := h.1 k'
    unfold jb at e
    exact h.2.2 k k' hk hk' (by omega)
/-- the place of a job is the number of those ahead of it -/
theorem ord_pos {S : Shp} (hk : Sok S) {rule : Nat} {o : Nat → Int} (ho : ∀ j, 0 ≤ o j ∧ o j ≤ 7) {p : Nat} (hp : p < S.cnt) : cAh S rule (jb (ordR S rule o S.cnt) p) S.cnt = p := by
  have hI := ord_inj hk.c (rule := rule) ho
  have h1 := rm_st hI p (by omega)
  have h2 : ∀ i, i < S.cnt → ((i ≠ jb (ordR S rule o S.cnt) p ∧ ahR S rule i (jb (ordR S rule o S.cnt) p)) ↔ stO (ordR S rule o S.cnt) 0 p / 2 ^ i % 2 = 1) := fun i hi => by
    obtain ⟨q, q1, q2⟩ := ordR_surj hk.c (rule := rule) ho hi
    have q3 : jb (ordR S rule o S.cnt) q = i := by unfold jb; omega
    rw [stO_bit]
    refine ⟨fun z => ?_, fun ⟨k, k1, k2⟩ => ?_⟩
    · refine ⟨q, ?_, by rw [Nat.zero_add]; exact q3⟩
      rcases (show q < p ∨ q = p ∨ p < q by omega) with y | y | y
      · exact y
      · exact absurd (by rw [← q3, y]) z.1
      · have := ord_ah hk (rule := rule) o p q y q1
        rw [q3] at this
        exact absurd this (fun w => ahR_irr z.2 w)
    · rw [Nat.zero_add] at k2
      have a := ord_ah hk (rule := rule) o k p k1 hp
      rw [k2] at a
      refine ⟨fun e => ?_, a⟩
      rw [e] at k2
      have := hI.2 k p (by omega) hp k2
      omega
  have h3 := cAh_rm (c := S.cnt) h2 S.cnt (Nat.le_refl _)
  omega
/-- the due date of a family, as the model finds it -/
def dueM (V : Nat → Nat → Int) (f : Int) : Nat → Int
  | 0 => 2000000000
  | j + 1 => if V 0 j = f ∧ V 3 j < dueM V f j then V 3 j else dueM V f j
theorem dueM_r {V : Nat → Nat → Int} (hV : Vok V) (f : Int) : ∀ j, 0 ≤ dueM V f j ∧ dueM V f j ≤ 2000000000
  | 0 => by unfold dueM; omega
  | j + 1 => by
    have h1 := dueM_r hV f j
    have h2 := hV 3 j
    unfold dueM
    split <;> omega
theorem dueM_eq {V : Nat → Nat → Int} (hV : Vok V) (f : Int) : ∀ c, (dueM V f c = 2000000000 ∧ dueTo V f c = 500 ∧ ∀ j, j < c → V 0 j ≠ f) ∨ dueM V f c = dueTo V f c
  | 0 => Or.inl ⟨rfl, rfl, fun j hj => absurd hj (Nat.not_lt_zero _)⟩
  | c + 1 => by
    have h3 := hV 3 c
    have hd := dueTo_r hV f c
    unfold dueM dueTo
    by_cases q : V 0 c = f
    · right
      rw [if_pos q]
      rcases dueM_eq hV f c with ⟨a1, a2, -⟩ | a
      · rw [if_pos ⟨q, by omega⟩, a2]; omega
      · by_cases z : V 3 c < dueM V f c
        · rw [if_pos ⟨q, z⟩]; omega
        · rw [if_neg (fun y => z y.2)]; omega
    · rw [if_neg (fun y => q y.1), if_neg q]
      rcases dueM_eq hV f c with ⟨a1, a2, a3⟩ | a
      · exact Or.inl ⟨a1, a2, fun j hj => by
          by_cases z : j = c
          · rw [z]; exact q
          · exact a3 j (by omega)⟩
      · exact Or.inr a
theorem dueM_at {S : Shp} (hV : Vok S.V) {a : Nat} (ha : a < S.cnt) : dueM S.V (S.V 0 a) S.cnt = dF S a := by
  rcases dueM_eq hV (S.V 0 a) S.cnt with ⟨-, -, h⟩ | h
  · exact absurd rfl (h a ha)
  · exact h
