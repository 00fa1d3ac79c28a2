/-! a job leaves a plan: what stays, and where batches begin -/
theorem fN_mono {o : Nat → Int} {x : Int} {i : Nat} : ∀ k, i ≤ k → fN o x i ≤ fN o x k
  | 0, h => by rw [show i = 0 by omega]; exact Nat.le_refl _
  | k + 1, h => by
    by_cases z : i = k + 1
    · rw [z]; exact Nat.le_refl _
    · have := fN_mono (o := o) (x := x) k (show i ≤ k by omega)
      show fN o x i ≤ (if o k = x then fN o x k else fN o x k + 1)
      split <;> omega
theorem fN_keep {o : Nat → Int} {x : Int} {k : Nat} (h : o k ≠ x) : fN o x (k + 1) = fN o x k + 1 := by show (if _ then _ else _) = _; rw [if_neg h]
theorem fN_drop {o : Nat → Int} {x : Int} {k : Nat} (h : o k = x) : fN o x (k + 1) = fN o x k := by show (if _ then _ else _) = _; rw [if_pos h]
def dnJ (x v : Int) : Int := if x < v then v - 1 else v
theorem dO_keep {o : Nat → Int} {x : Int} {k : Nat} (h : o k ≠ x) : dO o x (k + 1) = upz (dO o x k) (fN o x k) (dnJ x (o k)) := by show (if _ then _ else _) = _; rw [if_neg h]; rfl
theorem dO_drop {o : Nat → Int} {x : Int} {k : Nat} (h : o k = x) : dO o x (k + 1) = dO o x k := by show (if _ then _ else _) = _; rw [if_pos h]
theorem dO_at {o : Nat → Int} {x : Int} : ∀ i q, q < fN o x i → ∃ k, k < i ∧ o k ≠ x ∧ fN o x k = q ∧ dO o x i q = dnJ x (o k)
  | 0, q, h => absurd h (Nat.not_lt_zero _)
  | i + 1, q, h => by
    by_cases z : o i = x
    · rw [fN_drop z] at h
      obtain ⟨k, k1, k2, k3, k4⟩ := dO_at i q h
      exact ⟨k, by omega, k2, k3, by rw [dO_drop z]; exact k4⟩
    · rw [fN_keep z] at h
      by_cases y : q = fN o x i
      · exact ⟨i, by omega, z, y.symm, by rw [dO_keep z, y, upz_eq]⟩
      · obtain ⟨k, k1, k2, k3, k4⟩ := dO_at (o := o) (x := x) i q (by omega)
        exact ⟨k, by omega, k2, k3, by rw [dO_keep z, upz_ne y]; exact k4⟩
/-- place q begins a batch when job x has left -/
def DBg (o e : Nat → Int) (x : Int) (bc q : Nat) : Prop := ∃ b, b < bc ∧ fN o x (bgn e b) = q ∧ fN o x (bgn e b) < fN o x (bgn e (b + 1))
theorem drop_bg {o e : Nat → Int} {x : Int} : ∀ B, (∀ b, b < B → bgn e b ≤ bgn e (b + 1)) → bgn (bE o e x B) (bN o e x B) = fN o x (bgn e B) ∧ (∀ q, BgF (bE o e x B) (bN o e x B) q ↔ DBg o e x B q) ∧ (∀ c, c < bN o e x B → ((bgn (bE o e x B) c : Nat) : Int) < bE o e x B c ∧ bE o e x B c ≤ ((fN o x (bgn e B) : Nat) : Int)) ∧ bN o e x B ≤ fN o x (bgn e B)
  | 0, _ => ⟨rfl, fun q => ⟨fun ⟨b, hb, _⟩ => absurd hb (Nat.not_lt_zero _), fun ⟨b, hb, _⟩ => absurd hb (Nat.not_lt_zero _)⟩, fun c hc => absurd hc (Nat.not_lt_zero _), Nat.zero_le _⟩
  | B + 1, h => by
    obtain ⟨h1, h2, h3, h4⟩ := drop_bg (o := o) (x := x) B (fun b hb => h b (by omega))
    have hB : bgn e (B + 1) = (e B).toNat := bgn_succ e B
    have hm : fN o x (bgn e B) ≤ fN o x (bgn e (B + 1)) := fN_mono _ (h B (by omega))
    by_cases q : fN o x (bgn e B) < fN o x (bgn e (B + 1))
    · have eN : bN o e x (B + 1) = bN o e x B + 1 := by show (if _ then _ else _) = _; rw [← hB, if_pos q]
      have eE : bE o e x (B + 1) = upz (bE o e x B) (bN o e x B) ((fN o x (bgn e (B + 1)) : Nat) : Int) := by show (if _ then _ else _) = _; rw [← hB, if_pos q]
      have hg : ∀ c, c ≤ bN o e x B → bgn (bE o e x (B + 1)) c = bgn (bE o e x B) c := fun c hc => by rw [eE]; exact bgn_upz hc
      refine ⟨?_, fun p => ⟨fun ⟨c, c1, c2⟩ => ?_, fun ⟨b, b1, b2, b3⟩ => ?_⟩, fun c hc => ?_, by rw [eN]; omega⟩
      · rw [eN, bgn_succ, eE, upz_eq]; omega
      · rw [eN] at c1
        by_cases z : c = bN o e x B
        · rw [hg c (by omega), z, h1] at c2
          exact ⟨B, by omega, c2, q⟩
        · rw [hg c (by omega)] at c2
          obtain ⟨b, b1, b2, b3⟩ := (h2 p).mp ⟨c, by omega, c2⟩
          exact ⟨b, by omega, b2, b3⟩
      · by_cases z : b = B
        · rw [z] at b2
          exact ⟨bN o e x B, by omega, by rw [hg _ (Nat.le_refl _), h1]; exact b2⟩
        · obtain ⟨c, c1, c2⟩ := (h2 p).mpr ⟨b, by omega, b2, b3⟩
          exact ⟨c, by omega, by rw [hg c (by omega)]; exact c2⟩
      · rw [eN] at hc
        rw [hg c (by omega), eE]
        by_cases z : c = bN o e x B
        · rw [z, upz_eq, h1]; omega
        · rw [upz_ne z]
          have := h3 c (by omega)
          omega
    · have eN : bN o e x (B + 1) = bN o e x B := by show (if _ then _ else _) = _; rw [← hB, if_neg q]
      have eE : bE o e x (B + 1) = bE o e x B := by show (if _ then _ else _) = _; rw [← hB, if_neg q]
      have e0 : fN o x (bgn e (B + 1)) = fN o x (bgn e B) := by omega
      rw [eN, eE, e0]
      refine ⟨h1, fun p => (h2 p).trans ⟨fun ⟨b, b1, b2, b3⟩ => ⟨b, by omega, b2, b3⟩, fun ⟨b, b1, b2, b3⟩ => ?_⟩, h3, h4⟩
      by_cases z : b = B
      · rw [z] at b3; exact absurd b3 q
      · exact ⟨b, by omega, b2, b3⟩
theorem Pok.up {c : Nat} {o e : Nat → Int} {bc m : Nat} (h : Pok c o e bc m) : ∀ b, b < bc → bgn e b ≤ bgn e (b + 1) := fun b hb => Nat.le_of_lt (h.nx hb).1
theorem PlOk.drop {c : Nat} {P : PlS} (h : PlOk c P) {j : Nat} (hj : j < c) : PlOk (c - 1) (P.drop (j : Int)) := by
  have h : Pok c P.od P.en P.bc P.sz := h
  obtain ⟨d1, d2, d3, d4⟩ := drop_bg (o := P.od) (x := (j : Int)) P.bc h.up
  have hb := h.2.2.2.2.1
  have hle := fN_le P.od (j : Int) P.sz
  have h8 := h.1
  have e1 : (P.drop (j : Int)).sz = fN P.od (j : Int) (bgn P.en P.bc) := rfl
  have e3 : (P.drop (j : Int)).od = dO P.od (j : Int) (bgn P.en P.bc) := rfl
  refine ⟨by rw [e1, hb]; omega, by rw [e1]; exact d4, dO_r (by omega) h.2.2.1 _, fun b hb => d3 b hb, d1, fun k hk => ?_, fun k k' hk hk' e => ?_⟩
  · rw [e1] at hk
    obtain ⟨i, i1, i2, i3, i4⟩ := dO_at _ k hk
    rw [e3, i4]
    have a1 := h.2.2.2.2.2.1 i (by omega)
    have a2 := h.2.2.1 i
    unfold dnJ
    split <;> omega
  · rw [e1] at hk hk'
    rw [e3] at e
    obtain ⟨i, i1, i2, i3, i4⟩ := dO_at _ k hk
    obtain ⟨i', i1', i2', i3', i4'⟩ := dO_at _ k' hk'
    rw [i4, i4'] at e
    have : i = i' := by
      refine h.2.2.2.2.2.2 i i' (by omega) (by omega) ?_
      unfold dnJ at e
      split at e <;> split at e <;> omega
    rw [← i3, ← i3', this]
/-- a batch begins at k or before, and no job that stays lies between -/
def pndL (P : PlS) (x : Int) (k : Nat) : Prop := ∃ b, b < P.bc ∧ bgn P.en b ≤ k ∧ fN P.od x (bgn P.en b) = fN P.od x k
def pndS (P : PlS) (x : Int) (k : Nat) : Prop := ∃ b, b < P.bc ∧ bgn P.en b < k ∧ fN P.od x (bgn P.en b) = fN P.od x k
theorem pnd_or {P : PlS} {x : Int} {k : Nat} : pndL P x k ↔ pndS P x k ∨ BgF P.en P.bc k := by
  refine ⟨fun ⟨b, b1, b2, b3⟩ => ?_, fun z => ?_⟩
  · by_cases q : bgn P.en b = k
    · exact Or.inr ⟨b, b1, q⟩
    · exact Or.inl ⟨b, b1, by omega, b3⟩
  · rcases z with ⟨b, b1, b2, b3⟩ | ⟨b, b1, b2⟩
    · exact ⟨b, b1, by omega, b3⟩
    · exact ⟨b, b1, by omega, by rw [b2]⟩
theorem pnd_drop {P : PlS} {x : Int} {k : Nat} (h : P.od k = x) : pndS P x (k + 1) ↔ pndL P x k := by
  unfold pndS pndL
  rw [fN_drop h]
  exact ⟨fun ⟨b, b1, b2, b3⟩ => ⟨b, b1, by omega, b3⟩, fun ⟨b, b1, b2, b3⟩ => ⟨b, b1, by omega, b3⟩⟩
theorem pnd_keep {P : PlS} {x : Int} {k : Nat} (h : P.od k ≠ x) : ¬ pndS P x (k + 1) := fun ⟨b, b1, b2, b3⟩ => by
  rw [fN_keep h] at b3
  have := fN_mono (o := P.od) (x := x) k (show bgn P.en b ≤ k by omega)
  omega
theorem pnd_bg {c : Nat} {P : PlS} (hp : PlOk c P) {x : Int} {k : Nat} (hk : k < P.sz) (h : P.od k ≠ x) : pndL P x k ↔ DBg P.od P.en x P.bc (fN P.od x k) := by
  have hp : Pok c P.od P.en P.bc P.sz := hp
  have h1 := fN_keep h
  refine ⟨fun ⟨b, b1, b2, b3⟩ => ?_, fun ⟨b, b1, b2, b3⟩ => ?_⟩
  · obtain ⟨B, B1, -, B2, B3⟩ := bix_in hp hk
    have hle : bgn P.en b ≤ bgn P.en B := by
      by_cases z : b ≤ B
      · have key : ∀ n, b ≤ n → n ≤ P.bc → bgn P.en b ≤ bgn P.en n := by
          intro n
          induction n with
          | zero => intro z1 _; rw [show b = 0 by omega]; exact Nat.le_refl _
          | succ n ih =>
            intro z1 z2
            by_cases y : b = n + 1
            · rw [y]; exact Nat.le_refl _
            · exact Nat.le_trans (ih (by omega) (by omega)) (hp.up n (by omega))
        exact key B z (by omega)
      · exfalso
        have key : ∀ n, B < n → n ≤ P.bc → k < bgn P.en n := by
          intro n
          induction n with
          | zero => intro z1; omega
          | succ n ih =>
            intro z1 z2
            by_cases y : B = n
            · rw [← y, bgn_succ]; omega
            · exact Nat.lt_of_lt_of_le (ih (by omega) (by omega)) (hp.up n (by omega))
        have := key b (by omega) (by omega)
        omega
    have e1 : fN P.od x (bgn P.en B) = fN P.od x k := by
      have a1 := fN_mono (o := P.od) (x := x) _ hle
      have a2 := fN_mono (o := P.od) (x := x) _ B2
      omega
    refine ⟨B, B1, e1, ?_⟩
    have a3 := fN_mono (o := P.od) (x := x) (bgn P.en (B + 1)) (show k + 1 ≤ bgn P.en (B + 1) by rw [bgn_succ]; omega)
    omega
  · refine ⟨b, b1, ?_, b2⟩
    by_cases z : bgn P.en b ≤ k
    · exact z
    · have := fN_mono (o := P.od) (x := x) (bgn P.en b) (show k + 1 ≤ bgn P.en b by omega)
      omega
/-- where the model's loop stands -/
def RmI (A : Nat → Int) (P : PlS) (x : Int) (k : Nat) (A2 : Nat → Int) : Prop :=
  (∀ q, q ≤ 64 → A2 q = A q) ∧ (∀ q, q < fN P.od x k → A2 (65 + q) = dO P.od x k q) ∧ (∀ q, q < fN P.od x k → YN (A2 (73 + q)) (DBg P.od P.en x P.bc q)) ∧ (∀ q, k ≤ q → q < 8 → A2 (65 + q) = A (65 + q) ∧ A2 (73 + q) = A (73 + q))
theorem RmI_0 {A : Nat → Int} {P : PlS} {x : Int} : RmI A P x 0 A := ⟨fun _ _ => rfl, fun q hq => absurd hq (Nat.not_lt_zero _), fun q hq => absurd hq (Nat.not_lt_zero _), fun _ _ _ => ⟨rfl, rfl⟩⟩
theorem RmI_drop {A A2 : Nat → Int} {P : PlS} {x : Int} {k : Nat} (h : P.od k = x) (H : RmI A P x k A2) : RmI A P x (k + 1) A2 := by
  obtain ⟨h1, h2, h3, h4⟩ := H
  refine ⟨h1, fun q hq => ?_, fun q hq => ?_, fun q hq hq2 => h4 q (by omega) hq2⟩
  · rw [fN_drop h] at hq; rw [dO_drop h]; exact h2 q hq
  · rw [fN_drop h] at hq; exact h3 q hq
theorem RmI_keep {c : Nat} {A A2 : Nat → Int} {P : PlS} (hp : PlOk c P) {x f v : Int} {k : Nat} (hk : k < P.sz) (h : P.od k ≠ x) (H : RmI A P x k A2) (hv : v = dnJ x (P.od k)) (hf : YN f (pndL P x k)) : RmI A P x (k + 1) (upz (upz A2 (65 + fN P.od x k) v) (73 + fN P.od x k) f) := by
  obtain ⟨h1, h2, h3, h4⟩ := H
  have hle := fN_le P.od x k
  have h8 : P.sz ≤ 8 := hp.1
  refine ⟨fun q hq => ?_, fun q hq => ?_, fun q hq => ?_, fun q hq hq2 => ⟨?_, ?_⟩⟩
  · rw [upz_ne (by omega), upz_ne (by omega)]; exact h1 q hq
  · rw [fN_keep h] at hq
    rw [dO_keep h, upz_ne (by omega)]
    by_cases z : q = fN P.od x k
    · rw [z, upz_eq, upz_eq]; exact hv
    · rw [upz_ne (by omega), upz_ne z]; exact h2 q (by omega)
  · rw [fN_keep h] at hq
    by_cases z : q = fN P.od x k
    · rw [z, upz_eq]
      rcases hf with ⟨f1, f2⟩ | ⟨f1, f2⟩
      · exact Or.inl ⟨f1, (pnd_bg hp hk h).mp f2⟩
      · exact Or.inr ⟨f1, fun y => f2 ((pnd_bg hp hk h).mpr y)⟩
    · rw [upz_ne (by omega), upz_ne (by omega)]; exact h3 q (by omega)
  · rw [upz_ne (by omega), upz_ne (by omega)]; exact (h4 q (by omega) hq2).1
  · rw [upz_ne (by omega), upz_ne (by omega)]; exact (h4 q (by omega) hq2).2
/-- the jobs behind it move down -/
def sh5 (A : Nat → Int) (lo k : Nat) : Nat → Int := fun q => if lo ≤ q ∧ q < k then A (q + 5) else A q
theorem sh5_0 (A : Nat → Int) (lo : Nat) : sh5 A lo lo = A := by funext q; unfold sh5; rw [if_neg (by omega)]
theorem sh5_step (A : Nat → Int) {lo k : Nat} (h : lo ≤ k) : upz (sh5 A lo k) k (sh5 A lo k (k + 5)) = sh5 A lo (k + 1) := by
  funext q
  unfold upz
  by_cases z : q = k
  · rw [if_pos z, z]; unfold sh5; rw [if_neg (by omega), if_pos (by omega)]
  · rw [if_neg z]; unfold sh5
    by_cases y : lo ≤ q ∧ q < k
    · rw [if_pos y, if_pos (by omega)]
    · rw [if_neg y, if_neg (by omega)]
theorem MR.drop {A A' : Nat → Int} {S : Shp} (h : MR A S) (hc8 : S.cnt ≤ 8) {j : Nat} (hj : j < S.cnt) (e0 : A' 0 = (S.cnt : Int) - 1) (e1 : ∀ q, 0 < q → q < 64 → A' q = sh5 A (1 + 5 * j) 36 q) : MR A' (S.drop j) := by
  refine ⟨by rw [e0]; show _ = ((S.cnt - 1 : Nat) : Int); omega, fun w i hw hi => ?_, fun t ht => ?_, fun f t hf ht => ?_, ?_, ?_, ?_⟩
  · have hi : i < S.cnt - 1 := hi
    show _ = dropR (S.V w) j S.cnt i
    rw [e1 _ (by omega) (by omega)]
    unfold sh5 dropR
    by_cases z : j ≤ i
    · rw [if_pos (by omega), if_pos (by omega), ← h.v hw (show i + 1 < S.cnt by omega)]
      exact congrArg A (by omega)
    · rw [if_neg (by omega), if_neg (by omega)]; exact h.v hw (by omega)
  · rw [e1 _ (by omega) (by omega)]; unfold sh5; rw [if_neg (by omega)]; exact h.t0 ht
  · rw [e1 _ (by omega) (by omega)]; unfold sh5; rw [if_neg (by omega)]; exact h.t hf ht
  · rw [e1 _ (by omega) (by omega)]; unfold sh5; rw [if_neg (by omega)]; exact h.w
  · rw [e1 _ (by omega) (by omega)]; unfold sh5; rw [if_neg (by omega)]; exact h.e
  · rw [e1 _ (by omega) (by omega)]; unfold sh5; rw [if_neg (by omega)]; exact h.o
