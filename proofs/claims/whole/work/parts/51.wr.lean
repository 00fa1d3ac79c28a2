/-! what writing a set behind a plan does -/
def WJ (t : Nat) (P : PlS) (j : Nat) (Q : PlS) (fr : Int) : Prop :=
  Q.sz = P.sz + pcT t j ∧ (∀ k, k < P.sz → Q.od k = P.od k) ∧ (∀ k, k < pcT t j → ∃ i, i < j ∧ t / 2 ^ i % 2 = 1 ∧ Q.od (P.sz + k) = (i : Int)) ∧ (∀ i, i < j → t / 2 ^ i % 2 = 1 → ∃ k, k < pcT t j ∧ Q.od (P.sz + k) = (i : Int)) ∧ (∀ k k', k < k' → k' < pcT t j → Q.od (P.sz + k) < Q.od (P.sz + k')) ∧ (pcT t j = 0 → Q = P ∧ fr = 1) ∧ (0 < pcT t j → fr = 0 ∧ Q.bc = P.bc + 1 ∧ (∀ b, b < P.bc → Q.en b = P.en b) ∧ Q.en P.bc = ((P.sz + pcT t j : Nat) : Int))
theorem wpJ_st {t : Nat} {P : PlS} : ∀ j, WJ t P j (wpJ t P j).1 (wpJ t P j).2
  | 0 => ⟨rfl, fun _ _ => rfl, fun k h => absurd h (Nat.not_lt_zero _), fun i h => absurd h (Nat.not_lt_zero _), fun k k' _ h => absurd h (Nat.not_lt_zero _), fun _ => ⟨rfl, rfl⟩, fun h => absurd h (Nat.not_lt_zero _)⟩
  | j + 1 => by
    obtain ⟨h1, h2, h3, h4, h5, h6, h7⟩ := wpJ_st (t := t) (P := P) j
    by_cases q : t / 2 ^ j % 2 = 1
    · have e1 : wpJ t P (j + 1) = (addL (wpJ t P j).1 j (wpJ t P j).2, 0) := by show (if _ then _ else _) = _; rw [if_pos q]
      have e2 : pcT t (j + 1) = pcT t j + 1 := by show (if _ then _ else _) = _; rw [if_pos q]
      rw [e1]
      unfold WJ
      rw [e2]
      generalize wpJ t P j = W at *
      generalize pcT t j = n at *
      have eo : (addL W.1 j W.2).od = upz W.1.od (P.sz + n) (j : Int) := by rw [← h1]; rfl
      have eB : addB W.1 W.2 = P.bc + 1 := by
        unfold addB
        by_cases z : n = 0
        · obtain ⟨a, b⟩ := h6 z
          rw [if_pos (Or.inl b), a]
        · obtain ⟨a, b, -⟩ := h7 (by omega)
          rw [if_neg (by omega), b]
      have ee : (addL W.1 j W.2).en = upz W.1.en P.bc (((P.sz + n : Nat) : Int) + 1) := by
        show upz W.1.en (addB W.1 W.2 - 1) ((W.1.sz : Int) + 1) = _
        rw [eB, h1]; rfl
      have hen : ∀ b, b < P.bc → W.1.en b = P.en b := fun b hb => by
        by_cases z : n = 0
        · rw [(h6 z).1]
        · exact (h7 (by omega)).2.2.1 b hb
      refine ⟨?_, fun k hk => ?_, fun k hk => ?_, fun i hi hb => ?_, fun k k' hkk hk' => ?_, fun z => by omega, fun _ => ⟨rfl, eB, fun b hb => ?_, ?_⟩⟩
      · show W.1.sz + 1 = _; omega
      · rw [eo, upz_ne (by omega)]; exact h2 k hk
      · rw [eo]
        by_cases z : k = n
        · rw [z, upz_eq]; exact ⟨j, by omega, q, rfl⟩
        · rw [upz_ne (by omega)]
          obtain ⟨i, i1, i2, i3⟩ := h3 k (by omega)
          exact ⟨i, by omega, i2, i3⟩
      · rw [eo]
        by_cases z : i = j
        · rw [z]; exact ⟨n, by omega, upz_eq _ _ _⟩
        · obtain ⟨k, k1, k2⟩ := h4 i (by omega) hb
          exact ⟨k, by omega, by rw [upz_ne (by omega)]; exact k2⟩
      · rw [eo]
        by_cases z : k' = n
        · rw [z, upz_eq, upz_ne (by omega)]
          obtain ⟨i, i1, i2, i3⟩ := h3 k (by omega)
          omega
        · rw [upz_ne (by omega), upz_ne (by omega)]
          exact h5 k k' hkk (by omega)
      · rw [ee, upz_ne (by omega)]; exact hen b hb
      · rw [ee, upz_eq]; omega
    · have e1 : wpJ t P (j + 1) = wpJ t P j := by show (if _ then _ else _) = _; rw [if_neg q]
      have e2 : pcT t (j + 1) = pcT t j := by show (if _ then _ else _) = _; rw [if_neg q]
      rw [e1]
      unfold WJ
      rw [e2]
      refine ⟨h1, h2, fun k hk => ?_, fun i hi hb => ?_, h5, h6, h7⟩
      · obtain ⟨i, i1, i2, i3⟩ := h3 k hk
        exact ⟨i, by omega, i2, i3⟩
      · by_cases z : i = j
        · rw [z] at hb; exact absurd hb q
        · exact h4 i (by omega) hb
/-- behind a plan, the set that was written stands in the new batch -/
theorem wpJ_set {t : Nat} {P : PlS} {c : Nat} (ht : t < 2 ^ c) : stO (wpJ t P c).1.od P.sz (pcT t c) = t := by
  obtain ⟨h1, h2, h3, h4, h5, h6, h7⟩ := wpJ_st (t := t) (P := P) c
  apply Nat.eq_of_testBit_eq
  intro i
  have key : (stO (wpJ t P c).1.od P.sz (pcT t c) / 2 ^ i % 2 = 1) ↔ (t / 2 ^ i % 2 = 1) := by
    rw [stO_bit]
    constructor
    · rintro ⟨k, k1, k2⟩
      obtain ⟨x, x1, x2, x3⟩ := h3 k k1
      unfold jb at k2
      rw [x3, Int.toNat_natCast] at k2
      rw [← k2]; exact x2
    · intro z
      have hi : i < c := by
        by_cases y : i < c
        · exact y
        · rw [b_high ht (by omega)] at z; omega
      obtain ⟨k, k1, k2⟩ := h4 i hi z
      exact ⟨k, k1, by unfold jb; rw [k2, Int.toNat_natCast]⟩
  rw [b_bit, b_bit] at key
  exact Bool.eq_iff_iff.mpr key
