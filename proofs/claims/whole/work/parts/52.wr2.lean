/-! what writing a whole path leaves -/
def dnN (f : Nat → Nat) (dn : Nat) : Nat → Nat
  | 0 => dn
  | i + 1 => dnN f dn i ||| f i
theorem dnN_shift {f : Nat → Nat} {dn : Nat} : ∀ i, dnN f dn (i + 1) = dnN (fun x => f (x + 1)) (dn ||| f 0) i
  | 0 => rfl
  | i + 1 => by
    show dnN f dn (i + 1) ||| f (i + 1) = dnN (fun x => f (x + 1)) (dn ||| f 0) i ||| f (i + 1)
    rw [dnN_shift i]
theorem path_at {S : Shp} {fi : Int} : ∀ (ts : List Nat) (dn : Nat), pthOk S fi ts dn → (∀ i, i < ts.length → ts.getD i 0 < 2 ^ S.cnt ∧ alw S fi (dnN (fun x => ts.getD x 0) dn i) (ts.getD i 0) = true) ∧ dnN (fun x => ts.getD x 0) dn ts.length = alS S
  | [], dn, h => ⟨fun i hi => absurd hi (Nat.not_lt_zero _), h⟩
  | t :: ts, dn, h => by
    obtain ⟨h1, h2, h3⟩ := h
    obtain ⟨i1, i2⟩ := path_at ts _ h3
    refine ⟨fun i hi => ?_, ?_⟩
    · cases i with
      | zero => exact ⟨h1, h2⟩
      | succ i =>
        rw [List.length_cons] at hi
        rw [dnN_shift]
        exact i1 i (by omega)
    · rw [List.length_cons, dnN_shift]; exact i2
theorem stO_congr {o o' : Nat → Int} {be : Nat} : ∀ n, (∀ k, k < n → o (be + k) = o' (be + k)) → stO o be n = stO o' be n
  | 0, _ => rfl
  | n + 1, h => by
    unfold stO
    rw [stO_congr n (fun k hk => h k (by omega))]
    unfold jb
    rw [h n (by omega)]
def WN (c : Nat) (f : Nat → Nat) (i : Nat) (Q : PlS) : Prop :=
  Q.sz = szN c f i ∧ Q.bc = i ∧ (∀ b, b < i → Q.en b = ((szN c f (b + 1) : Nat) : Int)) ∧ (∀ b, b < i → stO Q.od (szN c f b) (pcT (f b) c) = f b) ∧ (∀ k, k < Q.sz → 0 ≤ Q.od k ∧ Q.od k < (c : Int)) ∧ (∀ k, k < Q.sz → dnN f 0 i / 2 ^ (jb Q.od k) % 2 = 1) ∧ ∀ k k', k < Q.sz → k' < Q.sz → Q.od k = Q.od k' → k = k'
theorem wpN_st {c : Nat} {f : Nat → Nat} {o e : Nat → Int} : ∀ i, (∀ b, b < i → f b < 2 ^ c ∧ f b ≠ 0 ∧ f b &&& dnN f 0 b = 0) → WN c f i (wpN c f (0, 0, o, e) i)
  | 0, _ => ⟨rfl, rfl, fun b h => absurd h (Nat.not_lt_zero _), fun b h => absurd h (Nat.not_lt_zero _), fun k h => absurd h (Nat.not_lt_zero _), fun k h => absurd h (Nat.not_lt_zero _), fun k k' h => absurd h (Nat.not_lt_zero _)⟩
  | i + 1, h => by
    obtain ⟨a1, a2, a3, a4, a5, a6, a7⟩ := wpN_st (o := o) (e := e) i (fun b hb => h b (by omega))
    obtain ⟨t1, t2, t3⟩ := h i (by omega)
    have hset := wpJ_set (P := wpN c f (0, 0, o, e) i) t1
    obtain ⟨j, j1, j2⟩ := bit_ex t2 c t1
    have hp := pc_pos j2 c j1
    obtain ⟨w1, w2, w3, w4, w5, w6, w7⟩ := wpJ_st (t := f i) (P := wpN c f (0, 0, o, e) i) c
    obtain ⟨-, v2, v3, v4⟩ := w7 hp
    show WN c f (i + 1) (wpJ (f i) (wpN c f (0, 0, o, e) i) c).1
    generalize (wpJ (f i) (wpN c f (0, 0, o, e) i) c).1 = Q at *
    generalize wpN c f (0, 0, o, e) i = P at *
    have es : szN c f (i + 1) = szN c f i + pcT (f i) c := rfl
    rw [a1] at w1 w2 w3 w5 v4 hset
    rw [a1] at a5 a6 a7
    rw [a2] at v2 v3 v4
    refine ⟨by omega, v2, fun b hb => ?_, fun b hb => ?_, fun k hk => ?_, fun k hk => ?_, fun k k' hk hk' he => ?_⟩
    · by_cases z : b = i
      · rw [z, v4, es]
      · rw [v3 b (by omega)]; exact a3 b (by omega)
    · by_cases z : b = i
      · rw [z]; exact hset
      · rw [← a4 b (by omega)]
        have hm := szN_mono (c := c) (ts := f) (i := b + 1) i (by omega)
        have eb : szN c f (b + 1) = szN c f b + pcT (f b) c := rfl
        rw [a4 b (by omega)]
        rw [stO_congr (o' := P.od) _ (fun k hk => w2 _ (by omega))]
        exact a4 b (by omega)
    · by_cases z : k < szN c f i
      · rw [w2 k z]; exact a5 k z
      · obtain ⟨x, x1, x2, x3⟩ := w3 (k - szN c f i) (by omega)
        rw [show szN c f i + (k - szN c f i) = k by omega] at x3
        omega
    · show (dnN f 0 i ||| f i) / 2 ^ (jb Q.od k) % 2 = 1
      rw [b_orb]
      by_cases z : k < szN c f i
      · left
        have := a6 k z
        unfold jb at this ⊢
        rw [w2 k z]; exact this
      · right
        obtain ⟨x, x1, x2, x3⟩ := w3 (k - szN c f i) (by omega)
        rw [show szN c f i + (k - szN c f i) = k by omega] at x3
        unfold jb
        rw [x3, Int.toNat_natCast]; exact x2
    · have old : ∀ k, k < szN c f i → dnN f 0 i / 2 ^ (jb Q.od k) % 2 = 1 := fun k z => by
        have := a6 k z
        unfold jb at this ⊢
        rw [w2 k z]; exact this
      have new : ∀ k, k < Q.sz → ¬ k < szN c f i → f i / 2 ^ (jb Q.od k) % 2 = 1 := fun k hk z => by
        obtain ⟨x, x1, x2, x3⟩ := w3 (k - szN c f i) (by omega)
        rw [show szN c f i + (k - szN c f i) = k by omega] at x3
        unfold jb
        rw [x3, Int.toNat_natCast]; exact x2
      have ej : jb Q.od k = jb Q.od k' := by unfold jb; rw [he]
      by_cases z : k < szN c f i
      · by_cases z' : k' < szN c f i
        · exact a7 k k' z z' (by rw [← w2 k z, ← w2 k' z']; exact he)
        · exact absurd ⟨new k' hk' z', by rw [← ej]; exact old k z⟩ (b_dis t3 _)
      · by_cases z' : k' < szN c f i
        · exact absurd ⟨new k hk z, by rw [ej]; exact old k' z'⟩ (b_dis t3 _)
        · rcases (show k < k' ∨ k = k' ∨ k' < k by omega) with y | y | y
          · have := w5 (k - szN c f i) (k' - szN c f i) (by omega) (by omega)
            rw [show szN c f i + (k - szN c f i) = k by omega, show szN c f i + (k' - szN c f i) = k' by omega] at this
            omega
          · exact y
          · have := w5 (k' - szN c f i) (k - szN c f i) (by omega) (by omega)
            rw [show szN c f i + (k - szN c f i) = k by omega, show szN c f i + (k' - szN c f i) = k' by omega] at this
            omega
