/-! a sequence by a rule: each job once, and in order -/
theorem pR_hi {S : Shp} {rule m : Nat} {o : Nat → Int} {i : Nat} : ∀ k, pR S rule o m k ≤ i → i < k → 0 < cmpR S rule (o i).toNat m
  | 0, _, h => by omega
  | k + 1, h, hi => by
    unfold pR at h
    by_cases q : 0 < cmpR S rule (o k).toNat m
    · rw [if_pos q] at h
      by_cases q2 : i = k
      · rw [q2]; exact q
      · exact pR_hi k h (by omega)
    · rw [if_neg q] at h; omega
theorem pR_lo {S : Shp} {rule m : Nat} {o : Nat → Int} : ∀ k p, pR S rule o m k = p + 1 → ¬ 0 < cmpR S rule (o p).toNat m
  | 0, p, h => by unfold pR at h; omega
  | k + 1, p, h => by
    unfold pR at h
    by_cases q : 0 < cmpR S rule (o k).toNat m
    · rw [if_pos q] at h; exact pR_lo k p h
    · rw [if_neg q] at h
      rw [show p = k by omega]; exact q
theorem insz_at {o : Nat → Int} {m p : Nat} {x : Nat} (j : Nat) : jb (insz o m p (x : Int)) j = if j < p then jb o j else if j = p then x else if j ≤ m then jb o (j - 1) else jb o j := by
  unfold jb insz
  split
  · rfl
  · split
    · exact Int.toNat_natCast x
    · split <;> rfl
theorem ordR_ok {S : Shp} {rule : Nat} {o : Nat → Int} {le : Nat → Nat → Prop} {c : Nat} (h1 : ∀ a b, a < b → b < c → 0 < cmpR S rule a b → le b a) (h2 : ∀ a b, a < b → b < c → ¬ 0 < cmpR S rule a b → le a b) (h3 : ∀ a b x, a < c → b < c → x < c → le a b → le b x → le a x) : ∀ m, m ≤ c → Prm m (ordR S rule o m) ∧ ∀ i i', i < i' → i' < m → le (jb (ordR S rule o m) i) (jb (ordR S rule o m) i')
  | 0, _ => ⟨⟨fun i h => by omega, fun i i' h => by omega, fun j h => by omega⟩, fun i i' _ h => by omega⟩
  | m + 1, hm => by
    obtain ⟨⟨p1, p2, p3⟩, ps⟩ := ordR_ok (o := o) h1 h2 h3 m (by omega)
    have hle := pR_le S rule (ordR S rule o m) m m
    have hhi := fun i => pR_hi (S := S) (rule := rule) (m := m) (o := ordR S rule o m) (i := i) m
    have hlo := fun q => pR_lo (S := S) (rule := rule) (m := m) (o := ordR S rule o m) m q
    show Prm (m + 1) (insz (ordR S rule o m) m (pR S rule (ordR S rule o m) m m) (m : Int)) ∧ _
    rw [show ordR S rule o (m + 1) = insz (ordR S rule o m) m (pR S rule (ordR S rule o m) m m) (m : Int) from rfl]
    generalize pR S rule (ordR S rule o m) m m = p at *
    generalize ordR S rule o m = r at *
    have ha : ∀ j, j < p → jb (insz r m p (m : Int)) j = jb r j := fun j hj => by rw [insz_at, if_pos hj]
    have hb : jb (insz r m p (m : Int)) p = m := by rw [insz_at, if_neg (by omega), if_pos rfl]
    have hc : ∀ j, p < j → j ≤ m → jb (insz r m p (m : Int)) j = jb r (j - 1) := fun j hj hjm => by rw [insz_at, if_neg (by omega), if_neg (by omega), if_pos hjm]
    have lo : ∀ j, j < p → le (jb r j) m := fun j hj => by
      obtain ⟨q, rfl⟩ : ∃ q, p = q + 1 := ⟨p - 1, by omega⟩
      have e1 := h2 (jb r q) m (p1 q (by omega)) (by omega) (hlo q rfl)
      by_cases z : j = q
      · rw [z]; exact e1
      · have b1 := p1 j (by omega)
        have b2 := p1 q (by omega)
        exact h3 _ _ _ (by omega) (by omega) (by omega) (ps j q (by omega) (by omega)) e1
    have hi : ∀ j, p ≤ j → j < m → le m (jb r j) := fun j hj hjm => h1 _ _ (p1 j hjm) (by omega) (hhi j hj hjm)
    refine ⟨⟨fun i hi' => ?_, fun i i' hi1 hi2 he => ?_, fun j hj => ?_⟩, fun i i' hi1 hi2 => ?_⟩
    · rcases (show i < p ∨ i = p ∨ p < i by omega) with q | q | q
      · rw [ha i q]; have := p1 i (by omega); omega
      · rw [q, hb]; omega
      · rw [hc i q (by omega)]; have := p1 (i - 1) (by omega); omega
    · rcases (show i < p ∨ i = p ∨ p < i by omega) with q | q | q <;> rcases (show i' < p ∨ i' = p ∨ p < i' by omega) with q' | q' | q'
      · rw [ha i q, ha i' q'] at he; exact p2 _ _ (by omega) (by omega) he
      · rw [ha i q, q', hb] at he; have := p1 i (by omega); omega
      · rw [ha i q, hc i' q' (by omega)] at he; have := p2 _ _ (by omega) (by omega) he; omega
      · rw [q, hb, ha i' q'] at he; have := p1 i' (by omega); omega
      · omega
      · rw [q, hb, hc i' q' (by omega)] at he; have := p1 (i' - 1) (by omega); omega
      · rw [hc i q (by omega), ha i' q'] at he; have := p2 _ _ (by omega) (by omega) he; omega
      · rw [hc i q (by omega), q', hb] at he; have := p1 (i - 1) (by omega); omega
      · rw [hc i q (by omega), hc i' q' (by omega)] at he; have := p2 _ _ (by omega) (by omega) he; omega
    · by_cases z : j = m
      · exact ⟨p, by omega, by rw [hb, z]⟩
      · obtain ⟨i, i1, i2⟩ := p3 j (by omega)
        by_cases z2 : i < p
        · exact ⟨i, by omega, by rw [ha i z2, i2]⟩
        · exact ⟨i + 1, by omega, by rw [hc (i + 1) (by omega) (by omega), show i + 1 - 1 = i by omega, i2]⟩
    · rcases (show i < p ∨ i = p ∨ p < i by omega) with q | q | q
      · rcases (show i' < p ∨ i' = p ∨ p < i' by omega) with q' | q' | q'
        · rw [ha i q, ha i' q']; exact ps i i' hi1 (by omega)
        · rw [ha i q, q', hb]; exact lo i q
        · rw [ha i q, hc i' q' (by omega)]
          exact ps i (i' - 1) (by omega) (by omega)
      · rw [q, hb, hc i' (by omega) (by omega)]; exact hi (i' - 1) (by omega) (by omega)
      · rw [hc i q (by omega), hc i' (by omega) (by omega)]; exact ps (i - 1) (i' - 1) (by omega) (by omega)
theorem cmpz_pos {a b : Int} : (0 < cmpz a b) ↔ b < a := by unfold cmpz; split <;> (try split) <;> omega
theorem ord_edd {S : Shp} (o : Nat → Int) : Prm S.cnt (ordR S 1 o S.cnt) ∧ Edd S (ordR S 1 o S.cnt) := by
  have h := ordR_ok (S := S) (rule := 1) (o := o) (le := fun a b => S.V 3 a ≤ S.V 3 b) (c := S.cnt)
    (fun a b _ _ z => by unfold cmpR at z; rw [if_neg (by decide), if_pos rfl, cmpz_pos] at z; show _ ≤ _; omega)
    (fun a b _ _ z => by unfold cmpR at z; rw [if_neg (by decide), if_pos rfl, cmpz_pos] at z; show _ ≤ _; omega)
    (fun a b x _ _ _ y z => Int.le_trans y z) S.cnt (Nat.le_refl _)
  exact ⟨h.1, h.2⟩
theorem ord_wsp {S : Shp} (hk : Sok S) (o : Nat → Int) : Prm S.cnt (ordR S 2 o S.cnt) ∧ Wsp S (ordR S 2 o S.cnt) := by
  have h := ordR_ok (S := S) (rule := 2) (o := o) (le := fun a b => S.V 1 a * S.V 4 b ≤ S.V 1 b * S.V 4 a) (c := S.cnt)
    (fun a b _ _ z => by unfold cmpR at z; rw [if_neg (by decide), if_neg (by decide), if_pos rfl, cmpz_pos] at z; show _ ≤ _; omega)
    (fun a b _ _ z => by unfold cmpR at z; rw [if_neg (by decide), if_neg (by decide), if_pos rfl, cmpz_pos] at z; show _ ≤ _; omega)
    (fun a b x ha hb hx y z => by
      have w1 := (hk.p a ha).2
      have w2 := (hk.p b hb).2
      have w3 := (hk.p x hx).2
      have y1 := Int.mul_le_mul_of_nonneg_right y (show 0 ≤ S.V 4 x by omega)
      have z1 := Int.mul_le_mul_of_nonneg_right z (show 0 ≤ S.V 4 a by omega)
      show _ ≤ _
      refine Int.le_of_mul_le_mul_left (a := S.V 4 b) ?_ (by omega)
      have e1 : S.V 4 b * (S.V 1 a * S.V 4 x) = S.V 1 a * S.V 4 b * S.V 4 x := by grind
      have e2 : S.V 1 b * S.V 4 a * S.V 4 x = S.V 1 b * S.V 4 x * S.V 4 a := by grind
      have e3 : S.V 4 b * (S.V 1 x * S.V 4 a) = S.V 1 x * S.V 4 b * S.V 4 a := by grind
      omega) S.cnt (Nat.le_refl _)
  exact ⟨h.1, h.2⟩
theorem rkd_ok {S : Shp} (hk : Sok S) (o : Nat → Int) : Rkd S (ordR S (if S.ob < 3 then 2 else 1) o S.cnt) := by
  by_cases q : S.ob < 3
  · rw [if_pos q]
    exact ⟨(ord_wsp hk o).1, fun _ => (ord_wsp hk o).2, fun z => by omega⟩
  · rw [if_neg q]
    exact ⟨(ord_edd o).1, fun z => absurd z q, fun _ => (ord_edd o).2⟩
