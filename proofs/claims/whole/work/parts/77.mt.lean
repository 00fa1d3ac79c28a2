/-! the model's marks and times -/
theorem Pok.bmono {c : Nat} {o e : Nat → Int} {bc m : Nat} (h : Pok c o e bc m) {b : Nat} : ∀ n, b ≤ n → n ≤ bc → bgn e b ≤ bgn e n
  | 0, z1, _ => by rw [show b = 0 by omega]; exact Nat.le_refl _
  | n + 1, z1, z2 => by
    by_cases y : b = n + 1
    · rw [y]; exact Nat.le_refl _
    · exact Nat.le_trans (h.bmono n (by omega) (by omega)) (h.up n (by omega))
theorem no_bg {c : Nat} {o e : Nat → Int} {bc m : Nat} (h : Pok c o e bc m) {b k : Nat} (hb : b < bc) (h1 : bgn e b < k) (h2 : k < bgn e (b + 1)) : ¬ BgF e bc k := fun ⟨b', z1, z2⟩ => by
  by_cases q : b' ≤ b
  · have := h.bmono b q (by omega)
    omega
  · have := h.bmono b' (show b + 1 ≤ b' by omega) (by omega)
    omega
theorem gr_bg {g e : Nat → Int} : ∀ i k, k < i → (BgF (grE g e i) (grB g i) k ↔ (k = 0 ∨ g k ≠ g (k - 1)))
  | 0, k, h => absurd h (Nat.not_lt_zero _)
  | i + 1, k, hk => by
    obtain ⟨g1, g2, g3⟩ := grE_ok (g := g) (e := e) i
    have eE : grE g e (i + 1) = upz (grE g e i) (grB g (i + 1) - 1) ((i : Int) + 1) := rfl
    have hg : ∀ c, c ≤ grB g (i + 1) - 1 → bgn (grE g e (i + 1)) c = bgn (grE g e i) c := fun c hc => by rw [eE]; exact bgn_upz hc
    by_cases q : i = 0 ∨ g i ≠ g (i - 1)
    · have eB : grB g (i + 1) = grB g i + 1 := by show (if _ then _ else _) = _; rw [if_pos q]
      by_cases z : k = i
      · rw [z]
        exact ⟨fun _ => q, fun _ => ⟨grB g i, by omega, by rw [hg _ (by omega), g2]⟩⟩
      · refine Iff.trans ⟨fun ⟨c, c1, c2⟩ => ?_, fun ⟨c, c1, c2⟩ => ⟨c, by omega, by rw [hg c (by omega)]; exact c2⟩⟩ (gr_bg (g := g) (e := e) i k (by omega))
        rw [hg c (by omega)] at c2
        by_cases y : c = grB g i
        · rw [y, g2] at c2; omega
        · exact ⟨c, by omega, c2⟩
    · have eB : grB g (i + 1) = grB g i := by show (if _ then _ else _) = _; rw [if_neg q]
      by_cases z : k = i
      · rw [z]
        refine ⟨fun ⟨c, c1, c2⟩ => ?_, fun y => absurd y q⟩
        rw [eB] at c1
        have hp := g3 (by omega)
        rw [hg c (by omega)] at c2
        have := g1 c c1
        omega
      · have hp := g3 (by omega)
        refine Iff.trans ⟨fun ⟨c, c1, c2⟩ => ?_, fun ⟨c, c1, c2⟩ => ⟨c, by omega, by rw [hg c (by omega)]; exact c2⟩⟩ (gr_bg (g := g) (e := e) i k (by omega))
        rw [hg c (by omega)] at c2
        exact ⟨c, by omega, c2⟩
/-- marks by families: the plan that groupByFamily makes -/
theorem SqP_gr {S : Shp} {sq op o e : Nat → Int} {m : Nat} (h1 : ∀ k, k < m → sq k = o k) (h2 : ∀ k, k < m → YN (op k) (k = 0 ∨ fmG S o k ≠ fmG S o (k - 1))) : SqP sq op (m, grB (fmG S o) m, o, grE (fmG S o) e m) := by
  refine ⟨h1, fun k hk => ?_⟩
  have hk : k < m := hk
  show YN (op k) (BgF (grE (fmG S o) e m) (grB (fmG S o) m) k)
  rcases h2 k hk with ⟨z1, z2⟩ | ⟨z1, z2⟩
  · exact Or.inl ⟨z1, (gr_bg m k hk).mpr z2⟩
  · exact Or.inr ⟨z1, fun y => z2 ((gr_bg m k hk).mp y)⟩
/-- the model's times, as far as b batches have been followed -/
def TmM (S : Shp) (P : PlS) (b : Nat) (ss es bo su se : Nat → Int) : Prop :=
  (∀ k, k < bgn P.en b → ss k = stK S P.od P.en P.bc k ∧ es k = cmK S P.od P.en P.bc k ∧ bo k = ((bix P.en k P.bc : Nat) : Int)) ∧
  ∀ b', b' < b → su b' = sst S P.od (bgn P.en b') (P.en b').toNat (frB S P.od P.en b') ∧ se b' = sst S P.od (bgn P.en b') (P.en b').toNat (frB S P.od P.en b') + stp S P.od (bgn P.en b') (lstB S P.od P.en b')
theorem pen_2k {S : Shp} (hk : Sok S) (j : Nat) {C : Int} (hC : 0 ≤ C ∧ C ≤ 2000) : -500 ≤ pen S j C ∧ pen S j C ≤ 36000000 := by
  have h3 := hk.v 3 j
  have h4 := hk.v 4 j
  have w1 : S.V 4 j ≤ 9 := h4.2.2.2.2.2 rfl
  have hw : 0 ≤ S.V 4 j := h4.1
  have hd : 0 ≤ S.V 3 j := h3.1
  have hd2 : S.V 3 j ≤ 500 := h3.2.1
  unfold pen penz
  split
  · omega
  · split
    · omega
    · split
      · have := Int.mul_le_mul w1 hC.2 hC.1 (by omega)
        have := Int.mul_nonneg hw hC.1
        omega
      · split
        · omega
        · have l0 : 0 ≤ C - S.V 3 j := by omega
          have l1 : C - S.V 3 j ≤ 2000 := by omega
          have a1 := Int.mul_le_mul w1 l1 l0 (by omega)
          have a2 := Int.mul_nonneg hw l0
          split
          · omega
          · split
            · have b1 := Int.mul_le_mul a1 l1 l0 (by omega)
              have b2 := Int.mul_nonneg a2 l0
              omega
            · omega
theorem f0B_r {S : Shp} (hk : Sok S) {P : PlS} (hp : PlOk S.cnt P) {b : Nat} (hb : b < P.bc) : 0 ≤ f0B S P.od P.en b ∧ f0B S P.od P.en b ≤ 300 + 60 * b + 50 * bgn P.en b + 60 := by
  have hp : Pok S.cnt P.od P.en P.bc P.sz := hp
  have h1 := frB_r hk.v hk.t hp b (by omega)
  have h7 := fst0_r hk.v hk.t P.od (bgn P.en b) (P.en b).toNat (lstB S P.od P.en b) h1.1
  unfold f0B
  omega
theorem cmK_2k {S : Shp} (hk : Sok S) {P : PlS} (hp : PlOk S.cnt P) {k : Nat} (hkk : k < P.sz) : 0 ≤ cmK S P.od P.en P.bc k ∧ cmK S P.od P.en P.bc k ≤ 2000 := by
  have hp' : Pok S.cnt P.od P.en P.bc P.sz := hp
  obtain ⟨b, b1, b2, b3, b4⟩ := bix_in hp' hkk
  have h8 := hp'.1
  have h9 := hp'.2.1
  have g1 := hp'.bg b (by omega)
  have g2 := hp'.bg (b + 1) (by omega)
  unfold cmK
  rw [b2]
  split
  · have := frB_r hk.v hk.t hp' (b + 1) (by omega)
    omega
  · have h0 := f0B_r hk hp b1
    have h1 := ptm_r hk.v P.od h0.1 (bgn P.en b) (k - bgn P.en b + 1)
    omega
/-- the cost as the model adds it up -/
def cstM (S : Shp) (P : PlS) (i : Nat) : Int := if i = 0 then neuM S else cstK S P.od P.en P.bc i
theorem cstM_step {S : Shp} (hk : Sok S) {P : PlS} (hp : PlOk S.cnt P) {i : Nat} (hi : i < P.sz) : jn S (cstM S P i) (pen S (jb P.od i) (cmK S P.od P.en P.bc i)) = cstM S P (i + 1) := by
  have h1 := pen_2k hk (jb P.od i) (cmK_2k hk hp hi)
  unfold cstM
  rw [if_neg (Nat.succ_ne_zero i)]
  show _ = jn S (cstK S P.od P.en P.bc i) (pen S (jb P.od i) (cmK S P.od P.en P.bc i))
  by_cases z : i = 0
  · rw [if_pos z, z]
    rw [z] at h1
    show jn S (neuM S) _ = jn S (neu S) _
    unfold jn neuM neu
    split
    · omega
    · rfl
  · rw [if_neg z]
theorem cstM_r {S : Shp} (hk : Sok S) {P : PlS} (hp : PlOk S.cnt P) : ∀ i, i ≤ P.sz → -1000000 ≤ cstM S P i - 0 ∧ -1000000 - 500 * i ≤ cstM S P i ∧ cstM S P i ≤ 36000000 * i
  | 0, _ => by unfold cstM neuM; rw [if_pos rfl]; split <;> omega
  | i + 1, hi => by
    have h0 := cstM_r hk hp i (by omega)
    have h1 := pen_2k hk (jb P.od i) (cmK_2k hk hp (k := i) (by omega))
    have h2 : S.ob < 4 → 0 ≤ pen S (jb P.od i) (cmK S P.od P.en P.bc i) := fun ho => pen_pos hk.v _ ho (cmK_2k hk hp (k := i) (by omega)).1
    have h3 : S.ob < 4 → 0 ≤ cstM S P i → 0 ≤ cstM S P (i + 1) := fun ho hz => by
      rw [← cstM_step hk hp (i := i) (by omega)]
      have := h2 ho
      unfold jn
      rw [if_neg (by omega)]
      omega
    rw [← cstM_step hk hp (i := i) (by omega)]
    unfold jn
    split
    · omega
    · have h4 : 0 ≤ cstM S P i := by
        have key : ∀ q, q ≤ i → 0 ≤ cstM S P q := by
          intro q
          induction q with
          | zero => intro _; unfold cstM neuM; rw [if_pos rfl, if_neg (by omega)]; exact Int.le_refl _
          | succ q ih =>
            intro hq
            have a1 := ih (by omega)
            have a2 := pen_pos hk.v (jb P.od q) (by omega) (cmK_2k hk hp (k := q) (by omega)).1
            rw [← cstM_step hk hp (i := q) (by omega)]
            unfold jn
            rw [if_neg (by omega)]
            omega
        exact key i (Nat.le_refl _)
      have := h2 (by omega)
      omega
theorem cstM_cost {S : Shp} {P : PlS} : (if P.sz = 0 then 0 else cstM S P P.sz) = cvS S P := by
  unfold cvS costP cstM
  by_cases z : P.sz = 0
  · rw [if_pos z, if_pos z]
  · rw [if_neg z, if_neg z, if_neg z]
