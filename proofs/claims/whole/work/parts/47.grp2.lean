/-! a sequence grouped by family: one family a batch, another in the next; its cost is no less than the least -/
theorem gr_fam {g e : Nat → Int} : ∀ i, (∀ b, b < grB g i → ∀ k, bgn (grE g e i) b ≤ k → k < bgn (grE g e i) (b + 1) → g k = g (bgn (grE g e i) b)) ∧ ∀ b, 0 < b → b < grB g i → g (bgn (grE g e i) (b - 1)) ≠ g (bgn (grE g e i) b)
  | 0 => ⟨fun b h => absurd h (Nat.not_lt_zero _), fun b _ h => absurd h (Nat.not_lt_zero _)⟩
  | i + 1 => by
    obtain ⟨f1, f2⟩ := gr_fam (g := g) (e := e) i
    obtain ⟨h1, h2, h3⟩ := grE_ok (g := g) (e := e) i
    rw [show grE g e (i + 1) = upz (grE g e i) (grB g (i + 1) - 1) ((i : Int) + 1) from rfl]
    by_cases q : i = 0 ∨ g i ≠ g (i - 1)
    · have eB : grB g (i + 1) = grB g i + 1 := by show (if _ then _ else _) = _; rw [if_pos q]
      rw [eB, show grB g i + 1 - 1 = grB g i by omega]
      have eN : bgn (upz (grE g e i) (grB g i) ((i : Int) + 1)) (grB g i + 1) = i + 1 := by rw [bgn_succ, upz_eq]; omega
      refine ⟨fun b hb k k1 k2 => ?_, fun b b0 hb => ?_⟩
      · rw [bgn_upz (by omega)] at k1 ⊢
        by_cases z : b = grB g i
        · rw [z] at k1 k2 ⊢
          rw [eN] at k2
          rw [h2] at k1 ⊢
          rw [show k = i by omega]
        · rw [bgn_upz (by omega)] at k2
          exact f1 b (by omega) k k1 k2
      · rw [bgn_upz (by omega), bgn_upz (by omega)]
        by_cases z : b = grB g i
        · have hl := h1 (b - 1) (by omega)
          have hi0 : i ≠ 0 := fun y => by rw [y] at z; have : grB g 0 = 0 := rfl; omega
          have eb : bgn (grE g e i) (b - 1 + 1) = i := by rw [show b - 1 + 1 = grB g i by omega]; exact h2
          have ep : (grE g e i (b - 1)).toNat = i := by rw [← bgn_succ]; exact eb
          have := f1 (b - 1) (by omega) (i - 1) (by omega) (by rw [eb]; omega)
          rw [z, h2, ← z, ← this]
          intro y
          rcases q with q | q
          · exact hi0 q
          · exact q y.symm
        · exact f2 b b0 (by omega)
    · have eB : grB g (i + 1) = grB g i := by show (if _ then _ else _) = _; rw [if_neg q]
      have hp := h3 (by omega)
      have hg : g i = g (i - 1) := by
        by_cases y : g i = g (i - 1)
        · exact y
        · exact absurd (Or.inr y) q
      rw [eB]
      have hl := h1 (grB g i - 1) (by omega)
      have eb : bgn (grE g e i) (grB g i - 1 + 1) = i := by rw [show grB g i - 1 + 1 = grB g i by omega]; exact h2
      have ep : (grE g e i (grB g i - 1)).toNat = i := by rw [← bgn_succ]; exact eb
      have hlast := f1 (grB g i - 1) (by omega) (i - 1) (by omega) (by rw [eb]; omega)
      refine ⟨fun b hb k k1 k2 => ?_, fun b b0 hb => ?_⟩
      · rw [bgn_upz (by omega)] at k1 ⊢
        by_cases z : b = grB g i - 1
        · rw [z] at k1 k2 ⊢
          rw [bgn_succ, upz_eq] at k2
          by_cases y : k = i
          · rw [y, hg]; exact hlast
          · exact f1 (grB g i - 1) (by omega) k k1 (by rw [eb]; omega)
        · rw [bgn_upz (by omega)] at k2
          exact f1 b (by omega) k k1 k2
      · rw [bgn_upz (by omega), bgn_upz (by omega)]
        exact f2 b b0 hb
theorem gr_Fam1 {S : Shp} {o e : Nat → Int} : Fam1 S o (grE (fmG S o) e S.cnt) (grB (fmG S o) S.cnt) := fun b hb k k1 k2 => (gr_fam (g := fmG S o) (e := e) S.cnt).1 b hb k k1 k2
theorem gr_Dif {S : Shp} (hk : Sok S) {o e : Nat → Int} : Dif S o (grE (fmG S o) e S.cnt) (grB (fmG S o) S.cnt) := fun b hb => by
  unfold lstB
  by_cases q : 0 < b
  · rw [if_pos q]; exact (gr_fam (g := fmG S o) (e := e) S.cnt).2 b q hb
  · rw [if_neg q]
    have v := hk.v 0 (jb o (bgn (grE (fmG S o) e S.cnt) b))
    omega
theorem sqC_ge {S : Shp} (hk : Sok S) {fi : Int} {o e : Nat → Int} (h : Sq S.cnt o) (hf : Fst fi o) (h0 : 0 < S.cnt) : fnS S fi ≤ sqC S o e := by
  unfold sqC
  by_cases q : S.wh = 1
  · exact fn_batch hk q (h.pok hk.c _ e) gr_Fam1 hf h0
  · exact fn_item hk q (h.pok hk.c _ e) gr_Fam1 (gr_Dif hk) hf h0
theorem rlO_fst {S : Shp} (hc : S.cnt ≤ 8) {rule : Nat} {ah : Int} {o : Nat → Int} (ho : ∀ j, 0 ≤ o j ∧ o j ≤ 7) (ha : ah = -1 ∨ (0 ≤ ah ∧ ah < (S.cnt : Int))) : Fst ah (rlO S rule ah o) := by
  by_cases q : ah = -1
  · exact Or.inl q
  · right
    obtain ⟨p, p1, p2⟩ := ordR_surj hc (rule := rule) ho (j := ah.toNat) (by omega)
    have h := ((Sq.ord hc (rule := rule) ho).front p1 (x := ah) (by omega)).2.2 0 (by omega)
    rw [if_pos rfl] at h
    refine ⟨by omega, ?_⟩
    unfold rlO jb
    rw [if_neg q, h]
theorem cstK_r {S : Shp} (hk : Sok S) {o e : Nat → Int} {bc m : Nat} (h : Pok S.cnt o e bc m) : ∀ i, i ≤ m → -1000000000000 - 500 * i ≤ cstK S o e bc i ∧ cstK S o e bc i ≤ 100000000000 * i
  | 0, _ => by have := neu_r S; show _ ≤ neu S ∧ neu S ≤ _; omega
  | i + 1, hi => by
    have h1 := cstK_r hk h i (by omega)
    have h2 := pen_r hk.v (jb o i) (cmK_r hk.v hk.t h (k := i) (by omega))
    show _ ≤ jn S (cstK S o e bc i) (pen S (jb o i) (cmK S o e bc i)) ∧ jn S (cstK S o e bc i) (pen S (jb o i) (cmK S o e bc i)) ≤ _
    unfold jn
    split <;> omega
theorem costP_r {S : Shp} (hk : Sok S) {o e : Nat → Int} {bc m : Nat} (h : Pok S.cnt o e bc m) : -1000000005000 ≤ costP S o e bc m ∧ costP S o e bc m ≤ 1000000000000 := by
  have h1 := cstK_r hk h m (Nat.le_refl _)
  have h2 := h.1
  unfold costP
  split <;> omega
theorem sqC_r {S : Shp} (hk : Sok S) {o e : Nat → Int} (h : Sq S.cnt o) : -1000000005000 ≤ sqC S o e ∧ sqC S o e ≤ 1000000000000 := costP_r hk (h.pok hk.c _ e)
theorem fnS_ge {S : Shp} (hk : Sok S) (fi : Int) : -1000000000000 ≤ fnS S fi := by
  have h1 : min (neu S) INF ≤ fnS S fi := fin_sum hk 8 _ _ _ _ (Int.le_refl 0)
  have h2 := neu_r S
  have h3 : INF = 1000000000000000 := rfl
  omega
