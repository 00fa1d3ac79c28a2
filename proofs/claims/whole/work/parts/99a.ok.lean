/-! the states that the object can be in: each public call keeps BOk -/
theorem Bst0 {S : Shp} {bs : Int} : Bst S 0 bs := ⟨Or.inl rfl, fun h => absurd h (by decide)⟩
theorem psh_ok {sv : Nat} {x : Nat → Snp} {c : Snp} (h : sv ≤ 4) (hx : ∀ i, i < sv → SnOk (x i)) (hc : SnOk c) : pshN sv ≤ 4 ∧ ∀ i, i < pshN sv → SnOk (pshX sv x c i) := by
  unfold pshN pshX
  by_cases z : sv = 4
  · rw [if_pos z, if_pos z]
    refine ⟨Nat.le_refl _, fun i hi => ?_⟩
    show SnOk (if i < 3 then x (i + 1) else c)
    split
    · exact hx _ (by omega)
    · exact hc
  · rw [if_neg z, if_neg z]
    refine ⟨by omega, fun i hi => ?_⟩
    show SnOk (if i = sv then c else x i)
    split
    · exact hc
    · exact hx _ (by omega)
theorem BOk.psh {c c' : Snp} {sv tl : Nat} {x : Nat → Snp} {tx : Nat → Int} (hO : BOk (c, sv, x, tx, tl)) (h0 : SnOk c) (h1 : SnOk c') : BOk (c', pshN sv, pshX sv x c, tx, tl) :=
  ⟨h1, (psh_ok hO.2.1 hO.2.2.1 h0).1, (psh_ok hO.2.1 hO.2.2.1 h0).2, hO.2.2.2⟩
theorem BOk.cur {c c' : Snp} {sv tl : Nat} {x : Nat → Snp} {tx : Nat → Int} (hO : BOk (c, sv, x, tx, tl)) (h1 : SnOk c') : BOk (c', sv, x, tx, tl) := ⟨h1, hO.2⟩
theorem BOk.undo {c : Snp} {sv tl : Nat} {x : Nat → Snp} {tx : Nat → Int} (hO : BOk (c, sv, x, tx, tl)) (h : 0 < sv) : BOk (x (sv - 1), sv - 1, x, tx, tl) :=
  ⟨hO.2.2.1 _ (show sv - 1 < sv by omega), show sv - 1 ≤ 4 by have : sv ≤ 4 := hO.2.1; omega, fun i hi => hO.2.2.1 i (show i < sv by have : i < sv - 1 := hi; omega), hO.2.2.2⟩
theorem BOk.app {c : Snp} {sv tl : Nat} {x : Nat → Snp} {tx : Nat → Int} {v : Int} (hO : BOk (c, sv, x, tx, tl)) (h : tl < 60) (hv : 0 ≤ v ∧ v ≤ 127) : BOk (c, sv, x, upz tx tl v, tl + 1) :=
  ⟨hO.1, hO.2.1, hO.2.2.1, show tl + 1 ≤ 60 by omega, fun i => by
    show 0 ≤ upz tx tl v i ∧ upz tx tl v i ≤ 127
    unfold upz
    split
    · exact hv
    · exact hO.2.2.2.2 i⟩
theorem BOk.clr {c : Snp} {sv tl : Nat} {x : Nat → Snp} {tx : Nat → Int} (hO : BOk (c, sv, x, tx, tl)) : BOk (c, sv, x, tx, 0) := ⟨hO.1, hO.2.1, hO.2.2.1, Nat.zero_le _, hO.2.2.2.2⟩
theorem vOk_r {w : Nat} {v : Int} (h : vOk (w : Int) v) : 0 ≤ v ∧ v ≤ 500 ∧ (w = 0 → v ≤ 3) ∧ (w = 1 → v ≤ 50) ∧ (w = 2 → v ≤ 300) ∧ (w = 4 → v ≤ 9) ∧ (w = 1 → 1 ≤ v) ∧ (w = 4 → 1 ≤ v) := by
  obtain ⟨⟨-, h1⟩, h2, h3⟩ := h
  rw [Int.toNat_natCast] at h2 h3
  rcases (show w = 0 ∨ w = 1 ∨ w = 2 ∨ w = 3 ∨ w = 4 by omega) with rfl | rfl | rfl | rfl | rfl <;> simp [rowLo, rowHi] at h2 h3 <;> omega
theorem Vok.at {V : Nat → Nat → Int} (hV : Vok V) {w j : Nat} : 0 ≤ V w j ∧ V w j ≤ 500 ∧ (w = 0 → V w j ≤ 3) ∧ (w = 1 → V w j ≤ 50) ∧ (w = 2 → V w j ≤ 300) ∧ (w = 4 → V w j ≤ 9) := hV w j
theorem Sok.add {S : Shp} (h : Sok S) {f t r u w : Int} (ha : aOk f t r u w) (hc : S.cnt < 8) : Sok (S.add f t r u w) := by
  obtain ⟨a0, a1, a2, a3, a4⟩ := ha
  have b0 := vOk_r (w := 0) a0
  have b1 := vOk_r (w := 1) a1
  have b2 := vOk_r (w := 2) a2
  have b3 := vOk_r (w := 3) a3
  have b4 := vOk_r (w := 4) a4
  refine ⟨show S.cnt + 1 ≤ 8 by omega, fun k j => ?_, h.t, h.w, h.e, h.o, fun j hj => ?_⟩
  · show 0 ≤ addV S.V S.cnt f t r u w k j ∧ addV S.V S.cnt f t r u w k j ≤ 500 ∧ (k = 0 → addV S.V S.cnt f t r u w k j ≤ 3) ∧ (k = 1 → addV S.V S.cnt f t r u w k j ≤ 50) ∧ (k = 2 → addV S.V S.cnt f t r u w k j ≤ 300) ∧ (k = 4 → addV S.V S.cnt f t r u w k j ≤ 9)
    have hv := h.v k j
    unfold addV
    by_cases z : j = S.cnt
    · rw [if_pos z]
      by_cases z0 : k = 0
      · rw [if_pos z0]; exact ⟨b0.1, b0.2.1, fun _ => b0.2.2.1 rfl, by omega, by omega, by omega⟩
      rw [if_neg z0]
      by_cases z1 : k = 1
      · rw [if_pos z1]; exact ⟨b1.1, b1.2.1, by omega, fun _ => b1.2.2.2.1 rfl, by omega, by omega⟩
      rw [if_neg z1]
      by_cases z2 : k = 2
      · rw [if_pos z2]; exact ⟨b2.1, b2.2.1, by omega, by omega, fun _ => b2.2.2.2.2.1 rfl, by omega⟩
      rw [if_neg z2]
      by_cases z3 : k = 3
      · rw [if_pos z3]; exact ⟨b3.1, b3.2.1, by omega, by omega, by omega, by omega⟩
      rw [if_neg z3]
      by_cases z4 : k = 4
      · rw [if_pos z4]; exact ⟨b4.1, b4.2.1, by omega, by omega, by omega, fun _ => b4.2.2.2.2.2.1 rfl⟩
      rw [if_neg z4]; exact hv
    · rw [if_neg z]; exact hv
  · have hj : j < S.cnt + 1 := hj
    show 1 ≤ addV S.V S.cnt f t r u w 1 j ∧ 1 ≤ addV S.V S.cnt f t r u w 4 j
    unfold addV
    by_cases z : j = S.cnt
    · rw [if_pos z, if_pos z, if_neg (by decide), if_pos rfl, if_neg (by decide), if_neg (by decide), if_neg (by decide), if_neg (by decide), if_pos rfl]
      exact ⟨b1.2.2.2.2.2.2.1 rfl, b4.2.2.2.2.2.2.2 rfl⟩
    · rw [if_neg z, if_neg z]
      exact h.p j (by omega)
theorem Sok.setV {S : Shp} (h : Sok S) {w : Int} {j : Nat} {v : Int} (hv : vOk w v) : Sok (S.setV w.toNat j v) := by
  obtain ⟨n, rfl⟩ : ∃ n : Nat, w = (n : Int) := ⟨w.toNat, by have := hv.1.1; omega⟩
  have b := vOk_r hv
  rw [Int.toNat_natCast]
  refine ⟨h.c, fun k i => ?_, h.t, h.w, h.e, h.o, fun i hi => ?_⟩
  · show 0 ≤ upf S.V n (upz (S.V n) j v) k i ∧ upf S.V n (upz (S.V n) j v) k i ≤ 500 ∧ (k = 0 → upf S.V n (upz (S.V n) j v) k i ≤ 3) ∧ (k = 1 → upf S.V n (upz (S.V n) j v) k i ≤ 50) ∧ (k = 2 → upf S.V n (upz (S.V n) j v) k i ≤ 300) ∧ (k = 4 → upf S.V n (upz (S.V n) j v) k i ≤ 9)
    have hv := h.v k i
    unfold upf
    by_cases z : k = n
    · rw [if_pos z]
      unfold upz
      by_cases y : i = j
      · rw [if_pos y, z]; exact ⟨b.1, b.2.1, b.2.2.1, b.2.2.2.1, b.2.2.2.2.1, b.2.2.2.2.2.1⟩
      · rw [if_neg y, ← z]; exact hv
    · rw [if_neg z]; exact hv
  · have hi : i < S.cnt := hi
    have hq := h.p i hi
    show 1 ≤ upf S.V n (upz (S.V n) j v) 1 i ∧ 1 ≤ upf S.V n (upz (S.V n) j v) 4 i
    unfold upf
    constructor
    · by_cases z : 1 = n
      · rw [if_pos z]
        unfold upz
        by_cases y : i = j
        · rw [if_pos y]; exact b.2.2.2.2.2.2.1 z.symm
        · rw [if_neg y, ← z]; exact hq.1
      · rw [if_neg z]; exact hq.1
    · by_cases z : 4 = n
      · rw [if_pos z]
        unfold upz
        by_cases y : i = j
        · rw [if_pos y]; exact b.2.2.2.2.2.2.2 z.symm
        · rw [if_neg y, ← z]; exact hq.2
      · rw [if_neg z]; exact hq.2
theorem Sok.setT {S : Shp} (h : Sok S) {r t : Nat} {v : Int} (hv : 0 ≤ v ∧ v ≤ 60) : Sok (S.setT r t v) := by
  refine ⟨h.c, h.v, fun k i => ?_, h.w, h.e, h.o, h.p⟩
  show 0 ≤ upf S.T r (upz (S.T r) t v) k i ∧ upf S.T r (upz (S.T r) t v) k i ≤ 60
  unfold upf
  by_cases z : k = r
  · rw [if_pos z]
    unfold upz
    by_cases y : i = t
    · rw [if_pos y]; exact hv
    · rw [if_neg y]; exact h.t r i
  · rw [if_neg z]; exact h.t k i
theorem Sok.setM {S : Shp} (h : Sok S) {wh er : Int} (h1 : wh = 0 ∨ wh = 1) (h2 : er = 0 ∨ er = 1) : Sok (S.setM wh er) := ⟨h.c, h.v, h.t, h1, h2, h.o, h.p⟩
theorem Sok.setO {S : Shp} (h : Sok S) {ob : Int} (h1 : 0 ≤ ob ∧ ob ≤ 5) : Sok (S.setO ob) := ⟨h.c, h.v, h.t, h.w, h.e, h1, h.p⟩
theorem PlOk.up {c : Nat} {P : PlS} (h : PlOk c P) : PlOk (c + 1) P := ⟨h.1, h.2.1, h.2.2.1, h.2.2.2.1, h.2.2.2.2.1, fun k hk => by have := h.2.2.2.2.2.1 k hk; omega, h.2.2.2.2.2.2⟩
theorem PlOk.emp {c : Nat} {P : PlS} (hO : ∀ j, 0 ≤ P.od j ∧ P.od j ≤ 7) : PlOk c P.none := ⟨Nat.zero_le _, Nat.le_refl _, hO, fun b hb => absurd hb (Nat.not_lt_zero _), rfl, fun k hk => absurd hk (Nat.not_lt_zero _), fun k _ hk => absurd hk (Nat.not_lt_zero _)⟩
theorem rdS_ok {S : Shp} (hc : S.cnt ≤ 8) {tx o e : Nat → Int} (hO : ∀ j, 0 ≤ o j ∧ o j ≤ 7) : ∀ i, (∀ k, k < i → rdG S (rdS tx o e k) (tx k)) → RdOk S (rdS tx o e i)
  | 0, _ => ⟨PlOk.emp (P := (0, 0, o, e)) hO, Or.inr rfl, rfl, fun h => absurd (show (1 : Int) = 0 from h) (by decide)⟩
  | i + 1, h => rd_ok hc (rdS_ok hc hO i (fun k hk => h k (by omega))) (h i (by omega))
theorem rd_pl {S : Shp} (hc : S.cnt ≤ 8) {tx o e : Nat → Int} {tl : Nat} (hO : ∀ j, 0 ≤ o j ∧ o j ≤ 7) (h : rdR S tx tl o e (-1)) : PlOk S.cnt (rdS tx o e tl).1 := by
  rcases h with ⟨i, -, -, -, h⟩ | ⟨h, -⟩
  · omega
  · exact (rdS_ok hc hO tl h).1
theorem cs0_ok : BOk cs0 := by
  refine ⟨⟨⟨Nat.zero_le _, fun w j => ?_, fun r t => ?_, Or.inl rfl, Or.inr rfl, ?_, fun j hj => absurd hj (Nat.not_lt_zero _)⟩, PlOk.emp (P := P00) (fun j => show (0 : Int) ≤ 0 ∧ (0 : Int) ≤ 7 by decide), Bst0⟩, Nat.zero_le _, fun i hi => absurd hi (Nat.not_lt_zero _), Nat.zero_le _, fun i => show (0 : Int) ≤ 0 ∧ (0 : Int) ≤ 127 by decide⟩
  · show (0 : Int) ≤ 0 ∧ (0 : Int) ≤ 500 ∧ (w = 0 → (0 : Int) ≤ 3) ∧ (w = 1 → (0 : Int) ≤ 50) ∧ (w = 2 → (0 : Int) ≤ 300) ∧ (w = 4 → (0 : Int) ≤ 9)
    omega
  · show (0 : Int) ≤ 0 ∧ (0 : Int) ≤ 60
    decide
  · show (0 : Int) ≤ 1 ∧ (1 : Int) ≤ 5
    decide
/-- the object's cells beside a change above or below them -/
theorem isBM.frm0 {n : Nat} {h h' : PH} {b : Nat} {sv tl : Int} {tx : Nat → Int} {lo hi : Nat} (H : isBM n h b sv tx tl) (E : Fr h h' lo hi) (hk : hi ≤ b ∨ b + 149 ≤ lo) : isBM n h' b sv tx tl := isBM.frm H E (by omega)
theorem BMI.frm {n : Nat} {h h' : PH} {b : Nat} {σ : CS} {lo hi : Nat} (H : BMI n h b σ) (E : Fr h h' lo hi) (hk : hi ≤ b ∨ b + 149 ≤ lo) : BMI n h' b σ := ⟨H.1.frm0 E hk, H.2.1.frm E (by omega), H.2.2.1.frm E (by omega), H.2.2.2.frm E (by omega)⟩
