/-! how long a path is, and how many jobs its sets hold -/
theorem pc_rm {dn t : Nat} (hd : t &&& dn = 0) : ∀ c, rmT dn c = rmT (dn ||| t) c + pcT t c
  | 0 => rfl
  | c + 1 => by
    have h := pc_rm hd c
    have h1 := b_orb dn t c
    have h2 := b_dis hd c
    unfold rmT pcT
    by_cases q1 : dn / 2 ^ c % 2 = 1
    · rw [if_pos q1, if_pos (h1.mpr (Or.inl q1)), if_neg (fun z => h2 ⟨z, q1⟩)]; exact h
    · by_cases q2 : t / 2 ^ c % 2 = 1
      · rw [if_neg q1, if_pos (h1.mpr (Or.inr q2)), if_pos q2]; omega
      · rw [if_neg q1, if_neg (fun z => (h1.mp z).elim q1 q2), if_neg q2]; omega
theorem pc_pos {t : Nat} {j : Nat} (hb : t / 2 ^ j % 2 = 1) : ∀ c, j < c → 0 < pcT t c
  | 0, h => by omega
  | c + 1, h => by
    unfold pcT
    by_cases q : j = c
    · rw [← q, if_pos hb]; omega
    · have := pc_pos hb c (by omega)
      split <;> omega
theorem rm_full {dn : Nat} : ∀ c, (∀ j, j < c → dn / 2 ^ j % 2 = 1) → rmT dn c = 0
  | 0, _ => rfl
  | c + 1, h => by unfold rmT; rw [if_pos (h c (by omega))]; exact rm_full c (fun j hj => h j (by omega))
theorem szN_shift {c : Nat} {f : Nat → Nat} : ∀ n, szN c f (n + 1) = pcT (f 0) c + szN c (fun i => f (i + 1)) n
  | 0 => by show 0 + pcT (f 0) c = pcT (f 0) c + 0; omega
  | n + 1 => by
    have h := szN_shift (c := c) (f := f) n
    show szN c f (n + 1) + pcT (f (n + 1)) c = pcT (f 0) c + (szN c (fun i => f (i + 1)) n + pcT (f (n + 1)) c)
    omega
theorem path_sz {S : Shp} {fi : Int} : ∀ (ts : List Nat) (dn : Nat), pthOk S fi ts dn → szN S.cnt (fun i => ts.getD i 0) ts.length = rmT dn S.cnt ∧ ts.length ≤ rmT dn S.cnt ∧ ∀ i, i < ts.length → ts.getD i 0 < 2 ^ S.cnt
  | [], dn, h => by
    have e : rmT dn S.cnt = 0 := rm_full _ (fun j hj => by rw [show dn = alS S from h]; exact bit_all hj)
    rw [e]
    exact ⟨rfl, Nat.le_refl _, fun i hi => absurd hi (Nat.not_lt_zero _)⟩
  | t :: ts, dn, h => by
    obtain ⟨h1, h2, h3⟩ := h
    obtain ⟨a1, a2, -⟩ := alw_i h2
    obtain ⟨i1, i2, i3⟩ := path_sz ts _ h3
    have e := pc_rm a2 S.cnt
    obtain ⟨j, j1, j2⟩ := bit_ex (okS_i a1).1 S.cnt h1
    have hp := pc_pos j2 S.cnt j1
    rw [List.length_cons]
    refine ⟨?_, by omega, fun i hi => ?_⟩
    · rw [szN_shift]
      show pcT t S.cnt + szN S.cnt (fun i => ts.getD i 0) ts.length = _
      omega
    · cases i with
      | zero => exact h1
      | succ i => exact i3 i (by omega)
/-- the first path from the start: what writePlan asks of it -/
theorem Gp_wr {S : Shp} (hk : Sok S) {fi fl : Int} {ts : List Nat} (h : Gp S fi fl 0 (-1) 0 (neu S) ts) : ts.length ≤ 8 ∧ szN S.cnt (fun i => ts.getD i 0) ts.length = S.cnt ∧ ∀ i, i < ts.length → ts.getD i 0 < 256 := by
  obtain ⟨h1, h2, h3⟩ := path_sz ts 0 (Gp_path ts _ _ _ _ h).1
  rw [rmT_0] at h1 h2
  have hc := hk.c
  have hp := nt_pow_r hk.c
  exact ⟨by omega, h1, fun i hi => by have := h3 i hi; omega⟩
