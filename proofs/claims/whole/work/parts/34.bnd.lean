/-! THE BOUNDS hold: each job apart -/
theorem sf_none {V : Nat → Nat → Int} (hV : Vok V) {t j : Nat} : ∀ c, sfT V t c = 4 → j < c → ¬ t / 2 ^ j % 2 = 1
  | 0, _, h => by omega
  | c + 1, h, hj => by
    have h2 := hV 0 c
    unfold sfT at h
    by_cases q : t / 2 ^ c % 2 = 1
    · rw [if_pos q] at h; split at h <;> omega
    · rw [if_neg q] at h
      by_cases q2 : j = c
      · rw [q2]; exact q
      · exact sf_none hV c h (by omega)
theorem sf_mem {V : Nat → Nat → Int} (hV : Vok V) {t j : Nat} (hb : t / 2 ^ j % 2 = 1) : ∀ c, sfT V t c ≠ -1 → j < c → V 0 j = sfT V t c
  | 0, _, h => by omega
  | c + 1, h, hj => by
    have h2 := hV 0 c
    unfold sfT at h ⊢
    by_cases q : t / 2 ^ c % 2 = 1
    · rw [if_pos q] at h ⊢
      by_cases q2 : sfT V t c = 4 ∨ sfT V t c = V 0 c
      · rw [if_pos q2]
        by_cases q3 : j = c
        · rw [q3]
        · rcases q2 with q4 | q4
          · exact absurd hb (sf_none hV c q4 (by omega))
          · rw [← q4]; exact sf_mem hV hb c (by omega) (by omega)
      · rw [if_neg q2] at h; omega
    · rw [if_neg q] at h ⊢
      by_cases q3 : j = c
      · rw [q3] at hb; exact absurd hb q
      · exact sf_mem hV hb c h (by omega)
theorem sr_mem {V : Nat → Nat → Int} {t j : Nat} (hb : t / 2 ^ j % 2 = 1) : ∀ c, j < c → V 2 j ≤ srT V t c
  | 0, h => by omega
  | c + 1, hj => by
    unfold srT
    by_cases q3 : j = c
    · rw [q3] at hb ⊢; rw [if_pos hb]; omega
    · have := sr_mem (V := V) hb c (by omega)
      split <;> omega
theorem sw_mem {V : Nat → Nat → Int} (hV : Vok V) {t j : Nat} (hb : t / 2 ^ j % 2 = 1) : ∀ c, j < c → V 1 j ≤ swT V t c
  | 0, h => by omega
  | c + 1, hj => by
    have h1 := hV 1 c
    have h2 := swT_r hV t c
    unfold swT
    by_cases q3 : j = c
    · rw [q3] at hb ⊢; rw [if_pos hb]; omega
    · have := sw_mem hV hb c (by omega)
      split <;> omega
theorem bit_ex {t : Nat} (h0 : t ≠ 0) : ∀ c, t < 2 ^ c → ∃ j, j < c ∧ t / 2 ^ j % 2 = 1
  | 0, h => by rw [Nat.pow_zero] at h; omega
  | c + 1, h => by
    by_cases q : t / 2 ^ c % 2 = 1
    · exact ⟨c, by omega, q⟩
    · obtain ⟨j, h1, h2⟩ := bit_ex h0 c (b_less h q)
      exact ⟨j, by omega, h2⟩
theorem bit_all {c j : Nat} (hj : j < c) : (2 ^ c - 1) / 2 ^ j % 2 = 1 := by
  rw [b_bit, Nat.testBit_two_pow_sub_one, decide_eq_true hj]
theorem sf_ex {S : Shp} (hk : Sok S) {t : Nat} (ht : t < 2 ^ S.cnt) (ho : okS S t = true) : ∃ i, i < S.cnt ∧ S.V 0 i = sfT S.V t S.cnt := by
  obtain ⟨h0, h1⟩ := okS_i ho
  obtain ⟨j, h2, h3⟩ := bit_ex h0 S.cnt ht
  exact ⟨j, h2, sf_mem hk.v h3 S.cnt h1 h2⟩
theorem lg_le {S : Shp} {f i : Nat} : ∀ c, i < c → S.V 0 i ≠ (f : Int) → lgTo S f c ≤ gapS S (S.V 0 i + 1).toNat f
  | 0, h, _ => by omega
  | c + 1, h, hn => by
    unfold lgTo
    by_cases q : i = c
    · rw [← q, if_neg hn]; omega
    · have := lg_le (S := S) c (show i < c by omega) hn
      split <;> omega
theorem gpA_le {S : Shp} (l : Int) (j : Nat) : gpA S l j ≤ lgTo S (S.V 0 j).toNat S.cnt := by unfold gpA; split <;> omega
theorem gpA_gap {S : Shp} (hV : Vok S.V) {l : Int} (hl : ∃ i, i < S.cnt ∧ S.V 0 i = l) (j : Nat) : gpA S l j ≤ gapS S (l + 1).toNat (S.V 0 j).toNat := by
  have h0 := hV 0 j
  unfold gpA
  by_cases q : S.V 0 j = l
  · rw [if_pos q, ← q]; omega
  · rw [if_neg q]
    obtain ⟨i, hi, e⟩ := hl
    rw [← e]
    exact lg_le S.cnt hi (by omega)
theorem endS_ge2 {S : Shp} (t : Nat) (l f : Int) : max (f + gapS S (l + 1).toNat (sfT S.V t S.cnt).toNat) (srT S.V t S.cnt) + swT S.V t S.cnt ≤ endS S t l f := by
  unfold endS; split <;> omega
theorem fld_none {S : Shp} {P : Nat → Prop} [DecidablePred P] {v : Nat → Int} {s : Int} : ∀ c, (∀ j, j < c → ¬ P j) → fld S P v s c = s
  | 0, _ => rfl
  | c + 1, h => by rw [fld_s, if_neg (h c (by omega))]; exact fld_none c (fun j hj => h j (by omega))
theorem split_dn {dn t : Nat} (hd : t &&& dn = 0) (j : Nat) : (¬ dn / 2 ^ j % 2 = 1 ↔ t / 2 ^ j % 2 = 1 ∨ ¬ (dn ||| t) / 2 ^ j % 2 = 1) ∧ ¬ (t / 2 ^ j % 2 = 1 ∧ ¬ (dn ||| t) / 2 ^ j % 2 = 1) := by
  have h1 := b_orb dn t j
  have h2 := b_dis hd j
  rw [h1]
  by_cases q1 : dn / 2 ^ j % 2 = 1
  · by_cases q2 : t / 2 ^ j % 2 = 1
    · exact absurd ⟨q2, q1⟩ h2
    · exact ⟨⟨fun z => absurd q1 z, fun z => z.elim (fun z => absurd z q2) (fun z => absurd (Or.inl q1) z)⟩, fun z => q2 z.1⟩
  · by_cases q2 : t / 2 ^ j % 2 = 1
    · exact ⟨⟨fun _ => Or.inl q2, fun _ => q1⟩, fun z => z.2 (Or.inr q2)⟩
    · exact ⟨⟨fun _ => Or.inr (fun z => z.elim q1 q2), fun _ => q1⟩, fun z => q2 z.1⟩
theorem ba_step {S : Shp} (hk : Sok S) {dn t : Nat} {l f s : Int} (hf : 0 ≤ f) (hl : ∃ i, i < S.cnt ∧ S.V 0 i = l) (ht : t < 2 ^ S.cnt) (ho : okS S t = true) (hd : t &&& dn = 0) : baT S dn l f s S.cnt ≤ baT S (dn ||| t) (sfT S.V t S.cnt) (endS S t l f) (smT S t (endS S t l f) s S.cnt) S.cnt := by
  rw [baT_fld, baT_fld, smT_fld]
  rw [fld_split (P1 := fun j => t / 2 ^ j % 2 = 1) (P2 := fun j => ¬ (dn ||| t) / 2 ^ j % 2 = 1) S.cnt (fun j _ => (split_dn hd j).1) (fun j _ => (split_dn hd j).2)]
  have hg := gapS_r hk.t (l + 1).toNat (sfT S.V t S.cnt).toNat
  have hw := swT_r hk.v t S.cnt
  have he := endS_ge2 (S := S) t l f
  have hfam := (okS_i ho).2
  refine fld_mono (fld_mono (Int.le_refl _) _ (fun j hj hb => ?_)) _ (fun j hj hb => ?_)
  · apply pen_mono hk.v
    have h1 := sf_mem hk.v hb S.cnt hfam hj
    have h2 := sr_mem (V := S.V) hb S.cnt hj
    have h3 := sw_mem hk.v hb S.cnt hj
    have h4 := gpA_gap hk.v hl j
    rw [h1] at h4
    unfold cpA
    omega
  · apply pen_mono hk.v
    have h4 := gpA_gap hk.v hl j
    have h5 := gpA_le (S := S) l j
    have h6 : f + gpA S l j ≤ endS S t l f + gpA S (sfT S.V t S.cnt) j := by
      by_cases q : S.V 0 j = sfT S.V t S.cnt
      · have h7 : 0 ≤ gpA S (sfT S.V t S.cnt) j := by
          have a1 := lgTo_r (S := S) hk.t (S.V 0 j).toNat S.cnt
          have a2 := gapS_r hk.t (S.V 0 j + 1).toNat (S.V 0 j).toNat
          unfold gpA; split <;> omega
        rw [q] at h4
        omega
      · have h7 : gpA S (sfT S.V t S.cnt) j = lgTo S (S.V 0 j).toNat S.cnt := by unfold gpA; rw [if_neg q]
        omega
    unfold cpA
    omega
theorem fin_ba {S : Shp} (hk : Sok S) {fi : Int} : ∀ k dn l f s, 0 ≤ f → (∃ i, i < S.cnt ∧ S.V 0 i = l) → min (baT S dn l f s S.cnt) INF ≤ fin S fi k dn l f s
  | 0, dn, l, f, s, hf, hl => by
    unfold fin
    by_cases q : dn = alS S
    · rw [if_pos q, baT_fld, fld_none _ (fun j hj z => z (by rw [q]; exact bit_all hj))]; omega
    · rw [if_neg q]; omega
  | k + 1, dn, l, f, s, hf, hl => by
    show _ ≤ (if _ then _ else _)
    by_cases q : dn = alS S
    · rw [if_pos q, baT_fld, fld_none _ (fun j hj z => z (by rw [q]; exact bit_all hj))]; omega
    · rw [if_neg q]
      refine mnS_ge _ (by omega) (fun t ht hp => ?_)
      obtain ⟨h1, h2, -⟩ := alw_i hp
      have h3 := ba_step hk hf hl ht h1 h2 (s := s)
      have h4 := fin_ba hk (fi := fi) k (dn ||| t) (sfT S.V t S.cnt) (endS S t l f) (smT S t (endS S t l f) s S.cnt) (endS_pos hk t l hf) (sf_ex hk ht h1)
      omega
/-! the jobs left in one line -/
theorem ng_le {S : Shp} {dn : Nat} {l : Int} {j : Nat} (hb : ¬ dn / 2 ^ j % 2 = 1) : ∀ c, j < c → ngTo S dn l c ≤ gapS S (l + 1).toNat (S.V 0 j).toNat
  | 0, h => by omega
  | c + 1, h => by
    unfold ngTo
    by_cases q : j = c
    · rw [← q, if_neg hb]; omega
    · have := ng_le (S := S) (l := l) hb c (by omega)
      split <;> omega
/-- the time of the jobs of t among the first i of the line; their weights; their weights times their due times -/
def ptT (S : Shp) (rk : Nat → Int) (t : Nat) : Nat → Int
  | 0 => 0
  | i + 1 => if t / 2 ^ (jb rk i) % 2 = 1 then ptT S rk t i + S.V 1 (jb rk i) else ptT S rk t i
def wtT (S : Shp) (rk : Nat → Int) (t : Nat) : Nat → Int
  | 0 => 0
  | i + 1 => if t / 2 ^ (jb rk i) % 2 = 1 then wtT S rk t i + S.V 4 (jb rk i) else wtT S rk t i
def dtT (S : Shp) (rk : Nat → Int) (t : Nat) : Nat → Int
  | 0 => 0
  | i + 1 => if t / 2 ^ (jb rk i) % 2 = 1 then dtT S rk t i + S.V 4 (jb rk i) * duL S (jb rk i) else dtT S rk t i
theorem ptT_r {S : Shp} (hV : Vok S.V) (rk : Nat → Int) (t : Nat) : ∀ i, 0 ≤ ptT S rk t i
  | 0 => Int.le_refl _
  | i + 1 => by have := ptT_r hV rk t i; have := hV 1 (jb rk i); unfold ptT; split <;> omega
theorem wtT_r {S : Shp} (hV : Vok S.V) (rk : Nat → Int) (t : Nat) : ∀ i, 0 ≤ wtT S rk t i
  | 0 => Int.le_refl _
  | i + 1 => by have := wtT_r hV rk t i; have := hV 4 (jb rk i); unfold wtT; split <;> omega
theorem tmT_sh {S : Shp} {rk : Nat → Int} {dn : Nat} {x a : Int} : ∀ i, tmT S rk dn (x + a) i = tmT S rk dn x i + a
  | 0 => rfl
  | i + 1 => by unfold tmT; rw [tmT_sh i]; split <;> omega
theorem slT_sh {S : Shp} {rk : Nat → Int} {dn : Nat} {x a : Int} : ∀ i, slT S rk dn (x + a) i = slT S rk dn x i + a * wsT S rk dn i
  | 0 => by unfold slT wsT; omega
  | i + 1 => by
    unfold slT wsT
    rw [slT_sh i, tmT_sh]
    split
    · rfl
    · grind
theorem tm_two {S : Shp} {rk : Nat → Int} {dn t : Nat} (hd : t &&& dn = 0) {x : Int} : ∀ i, tmT S rk dn x i = tmT S rk (dn ||| t) x i + ptT S rk t i
  | 0 => by unfold tmT ptT; omega
  | i + 1 => by
    have h := tm_two (S := S) (rk := rk) hd (x := x) i
    have h1 := b_orb dn t (jb rk i)
    have h2 := b_dis hd (jb rk i)
    unfold tmT ptT
    by_cases q1 : dn / 2 ^ (jb rk i) % 2 = 1
    · rw [if_pos q1, if_pos (h1.mpr (Or.inl q1)), if_neg (fun z => h2 ⟨z, q1⟩)]; exact h
    · by_cases q2 : t / 2 ^ (jb rk i) % 2 = 1
      · rw [if_neg q1, if_pos (h1.mpr (Or.inr q2)), if_pos q2]; omega
      · rw [if_neg q1, if_neg (fun z => (h1.mp z).elim q1 q2), if_neg q2]; omega
/-- the line goes by time over weight -/
def Wsp (S : Shp) (rk : Nat → Int) : Prop := ∀ m i, m < i → i < S.cnt → S.V 1 (jb rk m) * S.V 4 (jb rk i) ≤ S.V 1 (jb rk i) * S.V 4 (jb rk m)
theorem wsp_r {S : Shp} {rk : Nat → Int} {dn : Nat} {p w x : Int} : ∀ i, (∀ m, m < i → S.V 1 (jb rk m) * w ≤ p * S.V 4 (jb rk m)) → w * (tmT S rk dn x i - x) ≤ p * wsT S rk dn i
  | 0, _ => by unfold tmT wsT; rw [Int.sub_self]; omega
  | i + 1, h => by
    have h1 := wsp_r (S := S) (rk := rk) (dn := dn) (x := x) i (fun m hm => h m (by omega))
    have h2 := h i (by omega)
    unfold tmT wsT
    split
    · exact h1
    · have e1 : w * (tmT S rk dn x i + S.V 1 (jb rk i) - x) = w * (tmT S rk dn x i - x) + S.V 1 (jb rk i) * w := by grind
      have e2 : p * (wsT S rk dn i + S.V 4 (jb rk i)) = p * wsT S rk dn i + p * S.V 4 (jb rk i) := by grind
      omega
theorem sl_two {S : Shp} (hk : Sok S) {rk : Nat → Int} (hr : Wsp S rk) {dn t : Nat} (hd : t &&& dn = 0) {x : Int} : ∀ i, i ≤ S.cnt → slT S rk dn x i ≤ (x + ptT S rk t i) * wtT S rk t i - dtT S rk t i + slT S rk (dn ||| t) (x + ptT S rk t i) i
  | 0, _ => by unfold slT ptT wtT dtT; omega
  | i + 1, hi => by
    have h := sl_two hk hr hd (x := x) i (by omega)
    have h1 := b_orb dn t (jb rk i)
    have h2 := b_dis hd (jb rk i)
    have ht := tm_two (S := S) (rk := rk) hd (x := x) i
    have hp := hk.v 1 (jb rk i)
    have hwt := wtT_r hk.v rk t i
    have e1 : tmT S rk (dn ||| t) (x + ptT S rk t i) i = tmT S rk dn x i := by rw [tmT_sh, ht]
    by_cases q1 : dn / 2 ^ (jb rk i) % 2 = 1
    · have a1 : slT S rk dn x (i + 1) = slT S rk dn x i := by show (if _ then _ else _) = _; rw [if_pos q1]
      have a2 : ptT S rk t (i + 1) = ptT S rk t i := by show (if _ then _ else _) = _; rw [if_neg (fun z => h2 ⟨z, q1⟩)]
      have a3 : wtT S rk t (i + 1) = wtT S rk t i := by show (if _ then _ else _) = _; rw [if_neg (fun z => h2 ⟨z, q1⟩)]
      have a4 : dtT S rk t (i + 1) = dtT S rk t i := by show (if _ then _ else _) = _; rw [if_neg (fun z => h2 ⟨z, q1⟩)]
      have a5 : slT S rk (dn ||| t) (x + ptT S rk t i) (i + 1) = slT S rk (dn ||| t) (x + ptT S rk t i) i := by show (if _ then _ else _) = _; rw [if_pos (h1.mpr (Or.inl q1))]
      rw [a1, a2, a3, a4, a5]; exact h
    · have a1 : slT S rk dn x (i + 1) = slT S rk dn x i + S.V 4 (jb rk i) * (tmT S rk dn x i + S.V 1 (jb rk i) - duL S (jb rk i)) := by
        show (if _ then _ else _) = _; rw [if_neg q1]
        rw [show tmT S rk dn x (i + 1) = tmT S rk dn x i + S.V 1 (jb rk i) by show (if _ then _ else _) = _; rw [if_neg q1]]
      by_cases q2 : t / 2 ^ (jb rk i) % 2 = 1
      · have a2 : ptT S rk t (i + 1) = ptT S rk t i + S.V 1 (jb rk i) := by show (if _ then _ else _) = _; rw [if_pos q2]
        have a3 : wtT S rk t (i + 1) = wtT S rk t i + S.V 4 (jb rk i) := by show (if _ then _ else _) = _; rw [if_pos q2]
        have a4 : dtT S rk t (i + 1) = dtT S rk t i + S.V 4 (jb rk i) * duL S (jb rk i) := by show (if _ then _ else _) = _; rw [if_pos q2]
        have a5 : slT S rk (dn ||| t) (x + ptT S rk t (i + 1)) (i + 1) = slT S rk (dn ||| t) (x + ptT S rk t i) i + S.V 1 (jb rk i) * wsT S rk (dn ||| t) i := by
          show (if _ then _ else _) = _; rw [if_pos (h1.mpr (Or.inr q2)), a2, ← Int.add_assoc, slT_sh]
        have a6 := wsp_r (S := S) (rk := rk) (dn := dn ||| t) (p := S.V 1 (jb rk i)) (w := S.V 4 (jb rk i)) (x := x) i (fun m hm => hr m i hm (by omega))
        have a7 := Int.mul_nonneg hp.1 hwt
        rw [a1, a5, a2, a3, a4, ht]
        have e2 : (x + (ptT S rk t i + S.V 1 (jb rk i))) * (wtT S rk t i + S.V 4 (jb rk i)) = (x + ptT S rk t i) * wtT S rk t i + S.V 1 (jb rk i) * wtT S rk t i + S.V 4 (jb rk i) * (x + ptT S rk t i + S.V 1 (jb rk i)) := by grind
        have e3 : S.V 4 (jb rk i) * (tmT S rk (dn ||| t) x i + ptT S rk t i + S.V 1 (jb rk i) - duL S (jb rk i)) = S.V 4 (jb rk i) * (tmT S rk (dn ||| t) x i - x) + S.V 4 (jb rk i) * (x + ptT S rk t i + S.V 1 (jb rk i)) - S.V 4 (jb rk i) * duL S (jb rk i) := by grind
        omega
      · have a2 : ptT S rk t (i + 1) = ptT S rk t i := by show (if _ then _ else _) = _; rw [if_neg q2]
        have a3 : wtT S rk t (i + 1) = wtT S rk t i := by show (if _ then _ else _) = _; rw [if_neg q2]
        have a4 : dtT S rk t (i + 1) = dtT S rk t i := by show (if _ then _ else _) = _; rw [if_neg q2]
        have n1 : ¬ (dn ||| t) / 2 ^ (jb rk i) % 2 = 1 := fun z => (h1.mp z).elim q1 q2
        have a5 : slT S rk (dn ||| t) (x + ptT S rk t i) (i + 1) = slT S rk (dn ||| t) (x + ptT S rk t i) i + S.V 4 (jb rk i) * (tmT S rk dn x i + S.V 1 (jb rk i) - duL S (jb rk i)) := by
          show (if _ then _ else _) = _; rw [if_neg n1]
          rw [show tmT S rk (dn ||| t) (x + ptT S rk t i) (i + 1) = tmT S rk (dn ||| t) (x + ptT S rk t i) i + S.V 1 (jb rk i) by show (if _ then _ else _) = _; rw [if_neg n1], e1]
        rw [a1, a2, a3, a4, a5]; omega
