/-! LEAST COSTS OF WHAT COMES BEHIND -/
theorem jn_assoc (S : Shp) (a b c : Int) : jn S (jn S a b) c = jn S a (jn S b c) := by unfold jn; split <;> omega
theorem Ent.neu {S : Shp} {dn : Nat} {t c : Int} (h : Ent S dn t c) : Ent S dn t (neuM S) := by
  obtain ⟨h1, h2, h3, h4⟩ := h
  have := neuM_r S
  exact ⟨h1, by omega, h3, by omega⟩
theorem fn_jnk {S : Shp} (hk : Sok S) : ∀ (k dn : Nat) (l t c : Int), rmT dn S.cnt ≤ k → dn < 2 ^ S.cnt → Ent S dn t c → fn S (-1) dn l t c = jn S c (fn S (-1) dn l t (neuM S))
  | 0, dn, l, t, c, h, hd, he => by
    have z : dn = alS S := rmT_zero hd (by omega)
    rw [fn_all z, fn_all z, jn_comm, jn_neuM S he.2.1]
  | k + 1, dn, l, t, c, h, hd, he => by
    by_cases z : dn = alS S
    · rw [fn_all z, fn_all z, jn_comm, jn_neuM S he.2.1]
    · have key : ∀ s, s < 2 ^ S.cnt → alw S (-1) dn s = true → fn S (-1) (dn ||| s) (sfT S.V s S.cnt) (endS S s l t) (smT S s (endS S s l t) c S.cnt) = jn S c (fn S (-1) (dn ||| s) (sfT S.V s S.cnt) (endS S s l t) (smT S s (endS S s l t) (neuM S) S.cnt)) := fun s hs ha => by
        obtain ⟨h3, h4, -⟩ := alw_i ha
        have h5 := okS_i h3
        have h6 := rmT_lt h5.1 h4 S.cnt hs
        rw [fn_jnk hk k _ _ _ _ (by omega) (or_lt hd hs) (he.step hk h5.1 hs h4), fn_jnk hk k (dn ||| s) _ _ (smT S s (endS S s l t) (neuM S) S.cnt) (by omega) (or_lt hd hs) (he.neu.step hk h5.1 hs h4), ← jn_assoc, smT_jn he.2.1]
      apply Int.le_antisymm
      · obtain ⟨s, s1, s2, s3⟩ := fn_at hk (Or.inl rfl) (l := l) hd he.neu z
        rw [← s3, ← key s s1 s2]
        exact fn_step hk hd s1 s2
      · obtain ⟨s, s1, s2, s3⟩ := fn_at hk (Or.inl rfl) (l := l) hd he z
        rw [← s3, key s s1 s2]
        exact jn_mono (Int.le_refl _) (fn_step hk hd s1 s2)
theorem fn_jn {S : Shp} (hk : Sok S) {dn : Nat} {l t c : Int} (hd : dn < 2 ^ S.cnt) (he : Ent S dn t c) : fn S (-1) dn l t c = jn S c (fn S (-1) dn l t (neuM S)) := fn_jnk hk _ _ _ _ _ (Nat.le_refl _) hd he
/-- an entry of the table of rests -/
def DBe (S : Shp) (k t : Nat) (v : Int) : Prop := (v = 2000000000 ∨ (neuM S ≤ v ∧ v ≤ 36000000 * (rmT (k / 4) S.cnt : Int))) ∧ ((t : Int) + 110 * (rmT (k / 4) S.cnt : Int) ≤ 1180 → v = fn S (-1) (k / 4) ((k % 4 : Nat) : Int) (t : Int) (neuM S))
def DBs (S : Shp) (k0 : Nat) (le : Nat → Int) : Prop := ∀ k t : Nat, k0 ≤ k → k < 4 * 2 ^ S.cnt → t < 1200 → DBe S k t (le (1200 * k + t))
theorem DBe.r {S : Shp} (hk : Sok S) {k t : Nat} {v : Int} (h : DBe S k t v) : -1000000 ≤ v ∧ v ≤ 2000000000 ∧ (v ≠ 2000000000 → v ≤ 288000000) := by
  have := neuM_r S
  have := rmT_le (k / 4) S.cnt
  have := hk.c
  rcases h.1 with z | z <;> omega
theorem neuM_2 {S : Shp} {a b : Int} (h1 : neuM S ≤ a) (h2 : neuM S ≤ b) : neuM S ≤ jn S a b := by
  unfold neuM at *
  unfold jn
  split <;> omega
theorem smT_neuM {S : Shp} (hk : Sok S) {s : Nat} {en : Int} (he : 0 ≤ en) : neuM S ≤ smT S s en (neuM S) S.cnt := by
  rw [smT_fld]
  exact fld_ge _ (fun j _ _ ho => pen_pos hk.v j ho he)
/-- what is worth going on with set s -/
def Wt (S : Shp) (dn : Nat) (l t : Int) (s : Nat) : Int := fn S (-1) (dn ||| s) (sfT S.V s S.cnt) (endS S s l t) (smT S s (endS S s l t) (neuM S) S.cnt)
def GdT (S : Shp) (dn : Nat) (t : Int) : Prop := t + 110 * (rmT dn S.cnt : Int) ≤ 1180
theorem GdT.ent {S : Shp} (hk : Sok S) {dn : Nat} {t : Int} (h : GdT S dn t) (h0 : 0 ≤ t) : Ent S dn t (neuM S) := by
  have := neuM_r S
  have := rmT_le dn S.cnt
  have := hk.c
  exact ⟨h0, by omega, h, by omega⟩
/-- the best so far of the rests -/
def RI (S : Shp) (dn : Nat) (l t : Int) (its : Nat) (b : Int) : Prop := (b = 2000000000 ∨ (neuM S ≤ b ∧ b ≤ 36000000 * (rmT dn S.cnt : Int))) ∧ (GdT S dn t → (∀ s, s < 2 ^ S.cnt → alw S (-1) dn s = true → its < s → b ≤ Wt S dn l t s) ∧ (b = 2000000000 ∨ fn S (-1) dn l t (neuM S) ≤ b))
/-- the cost of going on with s, by the table -/
theorem rest_at {S : Shp} (hk : Sok S) {le : Nat → Int} {dn s : Nat} {l t : Int} (hd : dn < 2 ^ S.cnt) (hD : DBs S (4 * (dn + 1)) le) (hs : s < 2 ^ S.cnt) (ha : alw S (-1) dn s = true) (ht : 0 ≤ t ∧ t ≤ 1200) {f t1 : Nat} (ef : (f : Int) = sfT S.V s S.cnt) (et : (t1 : Int) = endS S s l t) {c1 v w : Int} (ec : c1 = smT S s (t1 : Int) (neuM S) S.cnt) (ev : (t1 < 1200 ∧ v = le (1200 * (4 * (dn ||| s) + f) + t1)) ∨ (1200 ≤ t1 ∧ v = 2000000000)) :
    (-1000000 ≤ c1 ∧ c1 ≤ 288000000) ∧ (-1000000 ≤ v ∧ v ≤ 2000000000 ∧ (v ≠ 2000000000 → v ≤ 288000000)) ∧ (GdT S dn t → t1 < 1200 ∧ v ≠ 2000000000 ∧ v = fn S (-1) (dn ||| s) (sfT S.V s S.cnt) (endS S s l t) (neuM S)) ∧ (w = (if v = 2000000000 then 2000000000 else jn S c1 v) → (w = 2000000000 ∨ (neuM S ≤ w ∧ w ≤ 36000000 * (rmT dn S.cnt : Int))) ∧ (GdT S dn t → w = Wt S dn l t s ∧ w ≤ 288000000)) := by
  obtain ⟨h3, h4, -⟩ := alw_i ha
  have h5 := okS_i h3
  have h6 := sfT_r hk.v s S.cnt
  have h7 := sfT_le3 hk.v h5.1 S.cnt hs
  have h8 := or_lt hd hs
  have h9 := or_gt (S := S) h5.1 h4 hs
  have a1 := endS_le hk s l ht.1
  have a2 := swT_r hk.v s S.cnt
  have a3 := hk.c
  have a4 : 0 ≤ (t1 : Int) ∧ (t1 : Int) ≤ 2000 := by omega
  have b1 := smT_neuM hk (s := s) a4.1
  have b2 := smT_rm hk h4 (x := neuM S) a4 S.cnt
  have b3 := neuM_r S
  have b4 := rmT_le dn S.cnt
  rw [← ec] at b1 b2
  have e1 : (4 * (dn ||| s) + f) / 4 = dn ||| s := by omega
  have e2 : (((4 * (dn ||| s) + f) % 4 : Nat) : Int) = sfT S.V s S.cnt := by omega
  have hv : (v = 2000000000 ∨ (neuM S ≤ v ∧ v ≤ 36000000 * (rmT (dn ||| s) S.cnt : Int))) ∧ (GdT S dn t → t1 < 1200 ∧ v = fn S (-1) (dn ||| s) (sfT S.V s S.cnt) (endS S s l t) (neuM S)) := by
    have hg : GdT S dn t → (t1 : Int) + 110 * (rmT (dn ||| s) S.cnt : Int) ≤ 1180 := fun g => by
      have := ((g.ent hk ht.1).step hk (l := l) h5.1 hs h4).2.2.1
      rw [← et] at this
      exact this
    rcases ev with ⟨v1, v2⟩ | ⟨v1, v2⟩
    · have hd2 := hD (4 * (dn ||| s) + f) t1 (by omega) (by omega) v1
      rw [← v2] at hd2
      unfold DBe at hd2
      rw [e1, e2, et] at hd2
      exact ⟨hd2.1, fun g => ⟨v1, hd2.2 (by rw [← et]; exact hg g)⟩⟩
    · refine ⟨Or.inl v2, fun g => ?_⟩
      have := hg g
      omega
  have hne : GdT S dn t → v ≠ 2000000000 := fun g => by
    have := (hv.2 g).2
    have := fn_le hk (fi := -1) (Or.inl rfl) (l := sfT S.V s S.cnt) h8 ((g.ent hk ht.1).step hk (l := l) h5.1 hs h4).neu
    omega
  have b5 := rmT_lt h5.1 h4 S.cnt hs
  refine ⟨by omega, ?_, fun g => ⟨(hv.2 g).1, hne g, (hv.2 g).2⟩, fun ew => ?_⟩
  · rcases hv.1 with y | y <;> omega
  · by_cases y : v = 2000000000
    · rw [if_pos y] at ew
      exact ⟨Or.inl ew, fun g => absurd y (hne g)⟩
    · rw [if_neg y] at ew
      rcases hv.1 with q | q
      · exact absurd q y
      · have c1l := neuM_2 b1 q.1
        have c1u : jn S c1 v ≤ 36000000 * (rmT dn S.cnt : Int) := by unfold jn; split <;> omega
        refine ⟨Or.inr (by omega), fun g => ?_⟩
        have hE := (g.ent hk ht.1).step hk (l := l) h5.1 hs h4
        have e3 : w = Wt S dn l t s := by
          unfold Wt
          rw [fn_jn hk h8 hE, ← (hv.2 g).2, ew, ec, et]
        exact ⟨e3, by omega⟩
theorem RI.start {S : Shp} {dn : Nat} {l t : Int} {its : Nat} (h : ∀ s, s < 2 ^ S.cnt → alw S (-1) dn s = true → s ≤ its) : RI S dn l t its 2000000000 :=
  ⟨Or.inl rfl, fun _ => ⟨fun s hs ha hi => absurd (h s hs ha) (by omega), Or.inl rfl⟩⟩
theorem RI.skip {S : Shp} {dn : Nat} {l t b : Int} {its its' : Nat} (h : RI S dn l t its b) (hn : ∀ s, s < 2 ^ S.cnt → alw S (-1) dn s = true → its' < s → its < s) : RI S dn l t its' b :=
  ⟨h.1, fun g => ⟨fun s hs ha hi => (h.2 g).1 s hs ha (hn s hs ha hi), (h.2 g).2⟩⟩
theorem RI.take {S : Shp} (hk : Sok S) {dn : Nat} {l t b b' w : Int} {its its' : Nat} (hd : dn < 2 ^ S.cnt) (h : RI S dn l t its b) (hi : its < 2 ^ S.cnt) (ha : alw S (-1) dn its = true) (hn : ∀ s, s < 2 ^ S.cnt → alw S (-1) dn s = true → its' < s → s = its ∨ its < s) (h1 : w = 2000000000 ∨ (neuM S ≤ w ∧ w ≤ 36000000 * (rmT dn S.cnt : Int))) (h2 : GdT S dn t → w = Wt S dn l t its ∧ w ≤ 288000000) (eb : b' = min w b) : RI S dn l t its' b' := by
  refine ⟨?_, fun g => ⟨fun s hs hal hlt => ?_, ?_⟩⟩
  · have := h.1
    have := rmT_le dn S.cnt
    have := hk.c
    rcases h.1 with y | y <;> rcases h1 with z | z <;> omega
  · have e := (h2 g).1
    rcases hn s hs hal hlt with y | y
    · rw [y, ← e]; omega
    · have := (h.2 g).1 s hs hal y
      omega
  · right
    have e := h2 g
    have : fn S (-1) dn l t (neuM S) ≤ Wt S dn l t its := fn_step hk hd hi ha
    rcases (h.2 g).2 with y | y <;> omega
theorem RI.fin {S : Shp} (hk : Sok S) {k t : Nat} {b : Int} (hd : k / 4 < 2 ^ S.cnt) (hz : k / 4 ≠ alS S) (h : RI S (k / 4) ((k % 4 : Nat) : Int) (t : Int) 0 b) : DBe S k t b := by
  refine ⟨h.1, fun g => ?_⟩
  have hE : Ent S (k / 4) (t : Int) (neuM S) := GdT.ent hk g (Int.natCast_nonneg _)
  obtain ⟨s, s1, s2, s3⟩ := fn_at hk (fi := -1) (Or.inl rfl) (l := ((k % 4 : Nat) : Int)) hd hE hz
  have h1 := (h.2 g).1 s s1 s2 (by have := (okS_i (alw_i s2).1).1; omega)
  have h2 := fn_le hk (fi := -1) (Or.inl rfl) (l := ((k % 4 : Nat) : Int)) hd hE
  unfold Wt at h1
  rw [s3] at h1
  rcases (h.2 g).2 with y | y <;> omega
theorem DBe.all {S : Shp} {k t : Nat} (hz : k / 4 = alS S) : DBe S k t (neuM S) := by
  have := neuM_r S
  exact ⟨Or.inr ⟨Int.le_refl _, by omega⟩, fun _ => by rw [fn_all hz]⟩
theorem LInv.row {le fr un : Nat → Int} (h : LInv le fr un) (k : Nat) : LInv le (upz fr k 0) (upz un k 1199) := fun k' hk => by
  obtain ⟨h1, h2, h3⟩ := h k' hk
  by_cases y : k' = k
  · rw [y, upz_eq, upz_eq]
    exact ⟨by omega, by omega, fun t ht z => by omega⟩
  · rw [upz_ne y, upz_ne y]
    exact ⟨h1, h2, h3⟩
theorem LInv.any {le fr un : Nat → Int} (h : LInv le fr un) {k t : Nat} {v : Int} (ht : t < 1200) (h0 : fr k = 0 ∧ un k = 1199) : LInv (upz le (1200 * k + t) v) fr un := fun k' hk => by
  obtain ⟨h1, h2, h3⟩ := h k' hk
  refine ⟨h1, h2, fun t' ht' z => ?_⟩
  by_cases y : k' = k
  · rw [y] at z; omega
  · rw [upz_ne (by omega)]; exact h3 t' ht' z
theorem sg_pw : ∀ s, s < 256 → s ≠ 0 → ((s &&& (s - 1) = 0) ↔ pw2 s = true) := by decide +kernel
/-! the first path, step by step -/
def GpS (S : Shp) (fl : Int) (D : Nat → Nat × Int × Int × Int) (ts : Nat → Nat) (m : Nat) : Prop :=
  (∀ i, i < m → (D i).1 ≠ alS S ∧ ts i < 2 ^ S.cnt ∧ alw S (-1) (D i).1 (ts i) = true ∧ (∀ u, u < ts i → alw S (-1) (D i).1 u = true → fl < Fx S (-1) (D i).1 (D i).2.1 (D i).2.2.1 (D i).2.2.2 u) ∧ D (i + 1) = ((D i).1 ||| ts i, sfT S.V (ts i) S.cnt, endS S (ts i) (D i).2.1 (D i).2.2.1, smT S (ts i) (endS S (ts i) (D i).2.1 (D i).2.2.1) (D i).2.2.2 S.cnt)) ∧ (D m).1 = alS S ∧ (D m).2.2.2 = fl
theorem Gp_seq {S : Shp} {fl : Int} : ∀ (L : List Nat) (dn : Nat) (l f c : Int), Gp S (-1) fl dn l f c L → ∃ D, D 0 = (dn, l, f, c) ∧ GpS S fl D (fun i => L.getD i 0) L.length
  | [], dn, l, f, c, h => ⟨fun _ => (dn, l, f, c), rfl, fun i hi => absurd hi (Nat.not_lt_zero _), h.1, h.2⟩
  | t :: L, dn, l, f, c, h => by
    obtain ⟨h1, h2, h3, h4, h5⟩ := h
    obtain ⟨D, d0, d1, d2, d3⟩ := Gp_seq L _ _ _ _ h5
    refine ⟨fun i => if i = 0 then (dn, l, f, c) else D (i - 1), rfl, fun i hi => ?_, d2, d3⟩
    by_cases z : i = 0
    · subst z
      exact ⟨h1, h2, h3, h4, d0⟩
    · obtain ⟨j, rfl⟩ : ∃ j, i = j + 1 := ⟨i - 1, by omega⟩
      exact d1 j (by have : j + 1 < L.length + 1 := hi; omega)
theorem Gp_neuM {S : Shp} (hk : Sok S) (h0 : 0 < S.cnt) {fl : Int} : ∀ {L : List Nat}, Gp S (-1) fl 0 (-1) 0 (neu S) L → Gp S (-1) fl 0 (-1) 0 (neuM S) L
  | [], h => by
    exfalso
    have h1 : 0 = 2 ^ S.cnt - 1 := h.1
    have : 2 ^ 1 ≤ 2 ^ S.cnt := Nat.pow_le_pow_right (by decide) (by omega)
    omega
  | t :: L, h => by
    obtain ⟨h1, h2, h3, h4, h5⟩ := h
    have key : ∀ u, u < 2 ^ S.cnt → alw S (-1) 0 u = true → smT S u (endS S u (-1) 0) (neu S) S.cnt = smT S u (endS S u (-1) 0) (neuM S) S.cnt := fun u hu ha => by
      have a1 := endS_le hk u (-1) (Int.le_refl 0)
      have a2 := swT_r hk.v u S.cnt
      have a3 := hk.c
      exact (smT_neu hk ⟨a1.1, by omega⟩ (okS_i (alw_i ha).1).1 hu).symm
    refine ⟨h1, h2, h3, fun u hu ha => ?_, ?_⟩
    · have := h4 u hu ha
      unfold Fx at this ⊢
      rw [key u (by omega) ha] at this
      exact this
    · rw [key t h2 h3] at h5
      exact h5
theorem GpS.inv {S : Shp} (hk : Sok S) {fl : Int} {D : Nat → Nat × Int × Int × Int} {ts : Nat → Nat} {m : Nat} (h : GpS S fl D ts m) (h0 : D 0 = (0, -1, 0, neuM S)) (hf : fl = fn S (-1) 0 (-1) 0 (neuM S)) : ∀ i, i ≤ m → (D i).1 < 2 ^ S.cnt ∧ (-1 ≤ (D i).2.1 ∧ (D i).2.1 ≤ 3) ∧ Ent S (D i).1 (D i).2.2.1 (D i).2.2.2 ∧ fl ≤ fn S (-1) (D i).1 (D i).2.1 (D i).2.2.1 (D i).2.2.2
  | 0, _ => by
    rw [h0]
    exact ⟨Nat.one_le_two_pow, ⟨Int.le_refl _, show (-1 : Int) ≤ 3 by decide⟩, Ent.start hk 0, by rw [hf]; exact Int.le_refl _⟩
  | i + 1, hi => by
    obtain ⟨a1, a2, a3, a4⟩ := GpS.inv hk h h0 hf i (by omega)
    obtain ⟨b1, b2, b3, b4, b5⟩ := h.1 i (by omega)
    obtain ⟨h3, h4, -⟩ := alw_i b3
    have h5 := okS_i h3
    have h6 := sfT_r hk.v (ts i) S.cnt
    have h7 := sfT_le3 hk.v h5.1 S.cnt b2
    rw [b5]
    exact ⟨or_lt a1 b2, ⟨h6.1, h7⟩, a3.step hk h5.1 b2 h4, Int.le_trans a4 (fn_step hk a1 b2 b3)⟩
/-- along the path the least cost is the last one -/
theorem GpS.at {S : Shp} (hk : Sok S) {fl : Int} {D : Nat → Nat × Int × Int × Int} {ts : Nat → Nat} {m : Nat} (h : GpS S fl D ts m) (h0 : D 0 = (0, -1, 0, neuM S)) (hf : fl = fn S (-1) 0 (-1) 0 (neuM S)) : ∀ n i, i + n = m → fn S (-1) (D i).1 (D i).2.1 (D i).2.2.1 (D i).2.2.2 = fl
  | 0, i, e => by
    rw [show i = m by omega, fn_all h.2.1]
    exact h.2.2
  | n + 1, i, e => by
    obtain ⟨a1, a2, a3, a4⟩ := h.inv hk h0 hf i (by omega)
    obtain ⟨b1, b2, b3, b4, b5⟩ := h.1 i (by omega)
    have := GpS.at hk h h0 hf n (i + 1) (by omega)
    rw [b5] at this
    have h2 := fn_step hk (l := (D i).2.1) (t := (D i).2.2.1) (c := (D i).2.2.2) a1 b2 b3
    have h3 : fn S (-1) ((D i).1 ||| ts i) (sfT S.V (ts i) S.cnt) (endS S (ts i) (D i).2.1 (D i).2.2.1) (smT S (ts i) (endS S (ts i) (D i).2.1 (D i).2.2.1) (D i).2.2.2 S.cnt) = fl := this
    omega
theorem GpS.fx {S : Shp} (hk : Sok S) {fl : Int} {D : Nat → Nat × Int × Int × Int} {ts : Nat → Nat} {m : Nat} (h : GpS S fl D ts m) (h0 : D 0 = (0, -1, 0, neuM S)) (hf : fl = fn S (-1) 0 (-1) 0 (neuM S)) {i : Nat} (hi : i < m) : Fx S (-1) (D i).1 (D i).2.1 (D i).2.2.1 (D i).2.2.2 (ts i) = fl := by
  have := h.at hk h0 hf (m - (i + 1)) (i + 1) (by omega)
  rw [(h.1 i hi).2.2.2.2] at this
  exact this
/-! laying a job last -/
def WQ (Q : PlS) : Prop := bgn Q.en Q.bc = Q.sz ∧ ∀ b, b < Q.bc → bgn Q.en b < Q.sz
theorem WQ.add {Q : PlS} {j : Nat} {fr : Int} (h : WQ Q) (hf : fr = 1 ∨ (fr = 0 ∧ 0 < Q.bc)) {sq op : Nat → Int} (hS : SqP sq op Q) : WQ (addL Q j fr) ∧ SqP (upz sq Q.sz (j : Int)) (upz op Q.sz fr) (addL Q j fr) := by
  obtain ⟨sz, bc, o, e⟩ := Q
  obtain ⟨w1, w2⟩ := h
  obtain ⟨s1, s2⟩ := hS
  have w1 : bgn e bc = sz := w1
  have w2 : ∀ b, b < bc → bgn e b < sz := w2
  have s1 : ∀ k, k < sz → sq k = o k := s1
  have s2 : ∀ k, k < sz → YN (op k) (BgF e bc k) := s2
  have hb : (addL (sz, bc, o, e) j fr) = (sz + 1, addB (sz, bc, o, e) fr, upz o sz (j : Int), upz e (addB (sz, bc, o, e) fr - 1) ((sz : Int) + 1)) := rfl
  have hA : addB (sz, bc, o, e) fr = if fr = 1 then bc + 1 else bc := by
    unfold addB
    show (if fr = 1 ∨ bc = 0 then bc + 1 else bc) = _
    rcases hf with z | z
    · rw [if_pos (Or.inl z), if_pos z]
    · have : 0 < bc := z.2
      rw [if_neg (by omega), if_neg (by omega)]
  rw [hb, hA]
  have hsq : ∀ k, k < sz + 1 → upz sq sz (j : Int) k = upz o sz (j : Int) k := fun k hk => by
    by_cases z : k = sz
    · rw [z, upz_eq, upz_eq]
    · rw [upz_ne z, upz_ne z]; exact s1 k (by omega)
  rcases hf with z | z
  · rw [if_pos z, show bc + 1 - 1 = bc by omega]
    have key : ∀ b, b ≤ bc → bgn (upz e bc ((sz : Int) + 1)) b = bgn e b := fun b hb => by
      unfold bgn
      by_cases y : 0 < b
      · rw [if_pos y, if_pos y, upz_ne (by omega)]
      · rw [if_neg y, if_neg y]
    refine ⟨⟨?_, fun b hb => ?_⟩, hsq, fun k hk => ?_⟩
    · show bgn (upz e bc ((sz : Int) + 1)) (bc + 1) = sz + 1
      unfold bgn
      rw [if_pos (by omega), show bc + 1 - 1 = bc by omega, upz_eq]
      omega
    · have hb : b < bc + 1 := hb
      show bgn (upz e bc ((sz : Int) + 1)) b < sz + 1
      rw [key b (by omega)]
      by_cases y : b = bc
      · rw [y, w1]; omega
      · have := w2 b (by omega); omega
    · have hk : k < sz + 1 := hk
      show YN (upz op sz fr k) (BgF (upz e bc ((sz : Int) + 1)) (bc + 1) k)
      by_cases y : k = sz
      · rw [y, upz_eq]
        exact Or.inl ⟨z, bc, by omega, by rw [key bc (Nat.le_refl _)]; exact w1⟩
      · rw [upz_ne y]
        refine (s2 k (by omega)).imp (fun q => ⟨q.1, ?_⟩) (fun q => ⟨q.1, fun ⟨b, b1, b2⟩ => ?_⟩)
        · obtain ⟨b, b1, b2⟩ := q.2
          exact ⟨b, by omega, by rw [key b (by omega)]; exact b2⟩
        · rw [key b (by omega)] at b2
          by_cases x : b = bc
          · rw [x, w1] at b2; omega
          · exact q.2 ⟨b, by omega, b2⟩
  · have z2 : 0 < bc := z.2
    rw [if_neg (by omega)]
    have key : ∀ b, b < bc → bgn (upz e (bc - 1) ((sz : Int) + 1)) b = bgn e b := fun b hb => by
      unfold bgn
      by_cases y : 0 < b
      · rw [if_pos y, if_pos y, upz_ne (by omega)]
      · rw [if_neg y, if_neg y]
    refine ⟨⟨?_, fun b hb => ?_⟩, hsq, fun k hk => ?_⟩
    · show bgn (upz e (bc - 1) ((sz : Int) + 1)) bc = sz + 1
      unfold bgn
      rw [if_pos z2, upz_eq]
      omega
    · have hb : b < bc := hb
      show bgn (upz e (bc - 1) ((sz : Int) + 1)) b < sz + 1
      rw [key b hb]
      have := w2 b hb
      omega
    · have hk : k < sz + 1 := hk
      show YN (upz op sz fr k) (BgF (upz e (bc - 1) ((sz : Int) + 1)) bc k)
      by_cases y : k = sz
      · rw [y, upz_eq]
        refine Or.inr ⟨z.1, fun ⟨b, b1, b2⟩ => ?_⟩
        rw [key b b1] at b2
        have := w2 b b1
        omega
      · rw [upz_ne y]
        refine (s2 k (by omega)).imp (fun q => ⟨q.1, ?_⟩) (fun q => ⟨q.1, fun ⟨b, b1, b2⟩ => ?_⟩)
        · obtain ⟨b, b1, b2⟩ := q.2
          exact ⟨b, b1, by rw [key b b1]; exact b2⟩
        · rw [key b b1] at b2
          exact q.2 ⟨b, b1, b2⟩
