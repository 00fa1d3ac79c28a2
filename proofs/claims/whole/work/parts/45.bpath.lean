/-! a plan whose batches are whole, as a path of sets -/
def pthV (S : Shp) (fi : Int) : List Nat → Nat → Prop
  | [], _ => True
  | t :: ts, dn => t < 2 ^ S.cnt ∧ alw S fi dn t = true ∧ pthV S fi ts (dn ||| t)
theorem pthV_app {S : Shp} {fi l f s : Int} {t : Nat} : ∀ (a : List Nat) (dn : Nat) (l f s : Int), pthV S fi a dn → t < 2 ^ S.cnt → alw S fi (pth S a dn l f s).1 t = true → pthV S fi (a ++ [t]) dn
  | [], _, _, _, _, _, h1, h2 => ⟨h1, h2, trivial⟩
  | u :: a, dn, l, f, s, h, h1, h2 => ⟨h.1, h.2.1, pthV_app (l := l) (f := f) (s := s) a _ _ _ _ h.2.2 h1 h2⟩
theorem pthV_ok {S : Shp} {fi : Int} : ∀ (a : List Nat) (dn : Nat) (l f s : Int), pthV S fi a dn → (pth S a dn l f s).1 = alS S → pthOk S fi a dn
  | [], _, _, _, _, _, h => h
  | _ :: a, _, _, _, _, h, h1 => ⟨h.1, h.2.1, pthV_ok a _ _ _ _ h.2.2 h1⟩
theorem dis_of {x y : Nat} (h : ∀ j, ¬ (x / 2 ^ j % 2 = 1 ∧ y / 2 ^ j % 2 = 1)) : x &&& y = 0 := by
  apply Nat.eq_of_testBit_eq
  intro i
  rw [Nat.zero_testBit, Nat.testBit_and]
  have := h i
  rw [b_bit, b_bit] at this
  cases e1 : x.testBit i <;> cases e2 : y.testBit i <;> first | rfl | exact absurd ⟨e1, e2⟩ this
theorem stO_app {o : Nat → Int} {be : Nat} : ∀ i, stO o 0 be ||| stO o be i = stO o 0 (be + i)
  | 0 => by show stO o 0 be ||| 0 = _; rw [Nat.or_zero]; rfl
  | i + 1 => by
    show stO o 0 be ||| (stO o be i ||| 2 ^ (jb o (be + i))) = stO o 0 (be + i) ||| 2 ^ (jb o (0 + (be + i)))
    rw [← Nat.or_assoc, stO_app i, Nat.zero_add]
/-- places hold jobs, each once -/
def Inj (c m : Nat) (o : Nat → Int) : Prop := (∀ k, k < m → jb o k < c) ∧ ∀ k k', k < m → k' < m → jb o k = jb o k' → k = k'
theorem Pok.inj {c : Nat} {o e : Nat → Int} {bc m : Nat} (h : Pok c o e bc m) : Inj c m o := by
  obtain ⟨-, -, h1, -, -, h2, h3⟩ := h
  refine ⟨fun k hk => ?_, fun k k' hk hk' e => h3 k k' hk hk' ?_⟩
  · have := h1 k; have := h2 k hk; unfold jb; omega
  · have a := h1 k; have b := h1 k'; unfold jb at e; omega
theorem st_free {c m : Nat} {o : Nat → Int} (h : Inj c m o) {be i : Nat} (hi : be + i < m) : ¬ stO o be i / 2 ^ (jb o (be + i)) % 2 = 1 := fun z => by
  obtain ⟨k, k1, k2⟩ := (stO_bit i).mp z
  have := h.2 (be + k) (be + i) (by omega) hi k2
  omega
theorem sw_st {V : Nat → Nat → Int} {c m : Nat} {o : Nat → Int} (h : Inj c m o) {be : Nat} {S : Shp} (hV : S.V = V) : ∀ i, be + i ≤ m → swT V (stO o be i) c = tsum S o be i
  | 0, _ => by show swT V 0 c = _; rw [swT_zero]; rfl
  | i + 1, hi => by
    show swT V (stO o be i ||| 2 ^ (jb o (be + i))) c = tsum S o be i + S.V 1 (jb o (be + i))
    rw [swT_ins (st_free h (by omega)), if_pos (h.1 _ (by omega)), sw_st h hV i (by omega), hV]
theorem sr_st {S : Shp} (hV : Vok S.V) {c m : Nat} {o : Nat → Int} (h : Inj c m o) {be : Nat} : ∀ i, be + i < m → srT S.V (stO o be (i + 1)) c = rdW S o be i
  | 0, hi => by
    have v := hV 2 (jb o be)
    show srT S.V (0 ||| 2 ^ (jb o (be + 0))) c = S.V 2 (jb o be)
    rw [srT_ins, if_pos (h.1 _ (by omega)), srT_zero, Nat.add_zero]
    omega
  | i + 1, hi => by
    show srT S.V (stO o be (i + 1) ||| 2 ^ (jb o (be + (i + 1)))) c = max (rdW S o be i) (S.V 2 (jb o (be + 1 + i)))
    rw [srT_ins, if_pos (h.1 _ (by omega)), sr_st hV h i (by omega), show be + (i + 1) = be + 1 + i by omega]
theorem rdW_ge {S : Shp} {o : Nat → Int} {be : Nat} : ∀ i k, k ≤ i → S.V 2 (jb o (be + k)) ≤ rdW S o be i
  | 0, k, h => by rw [show k = 0 by omega]; exact Int.le_refl _
  | i + 1, k, h => by
    rw [show rdW S o be (i + 1) = max (rdW S o be i) (S.V 2 (jb o (be + 1 + i))) from rfl]
    by_cases q : k = i + 1
    · rw [q, show be + (i + 1) = be + 1 + i by omega]; omega
    · have := rdW_ge (S := S) (o := o) (be := be) i k (by omega); omega
theorem tsum_pos {S : Shp} (hV : Vok S.V) {o : Nat → Int} {be : Nat} : ∀ i, 0 ≤ tsum S o be i
  | 0 => Int.le_refl _
  | i + 1 => by
    have h := tsum_pos hV (o := o) (be := be) i
    have v := hV 1 (jb o (be + i))
    show 0 ≤ tsum S o be i + S.V 1 (jb o (be + i))
    omega
theorem ptm_flat {S : Shp} (hV : Vok S.V) {o : Nat → Int} {t0 : Int} {be : Nat} : ∀ i, (∀ k, k < i → S.V 2 (jb o (be + k)) ≤ t0) → ptm S o t0 be i = t0 + tsum S o be i
  | 0, _ => by show t0 = t0 + 0; omega
  | i + 1, h => by
    have h1 := ptm_flat hV i (fun k hk => h k (by omega))
    have h2 := h i (by omega)
    have h3 := tsum_pos hV (o := o) (be := be) i
    show max (ptm S o t0 be i) (S.V 2 (jb o (be + i))) + S.V 1 (jb o (be + i)) = t0 + (tsum S o be i + S.V 1 (jb o (be + i)))
    rw [h1]; omega
/-- each batch has one family -/
def Fam1 (S : Shp) (o e : Nat → Int) (bc : Nat) : Prop := ∀ b, b < bc → ∀ k, bgn e b ≤ k → k < bgn e (b + 1) → S.V 0 (jb o k) = S.V 0 (jb o (bgn e b))
def btS (o e : Nat → Int) (b : Nat) : Nat := stO o (bgn e b) (bgn e (b + 1) - bgn e b)
def btL (o e : Nat → Int) : Nat → List Nat
  | 0 => []
  | b + 1 => btL o e b ++ [btS o e b]
theorem Pok.nx {c : Nat} {o e : Nat → Int} {bc m : Nat} (h : Pok c o e bc m) {b : Nat} (hb : b < bc) : bgn e b < bgn e (b + 1) ∧ bgn e (b + 1) ≤ m ∧ ((bgn e (b + 1) : Nat) : Int) = e b := by
  have h1 := h.2.2.2.1 b hb
  rw [bgn_succ]
  omega
theorem bt_fam {S : Shp} (hk : Sok S) {o e : Nat → Int} {bc m : Nat} (h : Pok S.cnt o e bc m) (hf : Fam1 S o e bc) {b : Nat} (hb : b < bc) : sfT S.V (btS o e b) S.cnt = S.V 0 (jb o (bgn e b)) := by
  have hn := h.nx hb
  refine sf_is hk.v (j := jb o (bgn e b)) (fun i hi hbit => ?_) (h.inj.1 _ (by omega)) ?_
  · obtain ⟨k, k1, k2⟩ := (stO_bit _).mp hbit
    rw [← k2]; exact hf b hb _ (by omega) (by omega)
  · exact (stO_bit _).mpr ⟨0, by omega, by rw [Nat.add_zero]⟩
theorem bt_end {S : Shp} (hk : Sok S) (hw : S.wh = 1) {o e : Nat → Int} {bc m : Nat} (h : Pok S.cnt o e bc m) (hf : Fam1 S o e bc) {b : Nat} (hb : b < bc) (l fr : Int) : endS S (btS o e b) l fr = fre S o (bgn e b) (bgn e (b + 1)) l fr := by
  have hn := h.nx hb
  have e1 : srT S.V (btS o e b) S.cnt = rdW S o (bgn e b) (bgn e (b + 1) - bgn e b - 1) := by
    have := sr_st hk.v h.inj (be := bgn e b) (bgn e (b + 1) - bgn e b - 1) (by omega)
    rw [show bgn e (b + 1) - bgn e b - 1 + 1 = bgn e (b + 1) - bgn e b by omega] at this
    exact this
  have e2 : swT S.V (btS o e b) S.cnt = tsum S o (bgn e b) (bgn e (b + 1) - bgn e b) := sw_st h.inj rfl _ (by omega)
  have e3 : rdy S o (bgn e b) (bgn e (b + 1)) = rdW S o (bgn e b) (bgn e (b + 1) - bgn e b - 1) := by unfold rdy; rw [if_pos hw]
  unfold fre
  rw [ptm_flat hk.v _ (fun k hk' => ?_)]
  · unfold endS fst0 sst stp gapS
    rw [e1, e2, e3, bt_fam hk h hf hb, if_pos hw]
  · have := rdW_ge (S := S) (o := o) (be := bgn e b) (bgn e (b + 1) - bgn e b - 1) k (by omega)
    unfold fst0
    rw [e3]; omega
theorem sm_st {S : Shp} {c m : Nat} {o : Nat → Int} (h : Inj S.cnt m o) {be : Nat} {en s : Int} {C : Nat → Int} (hC : C = C) {g : Nat → Int} (hg : ∀ i, be + i < m → g (be + i + 1) = jn S (g (be + i)) (pen S (jb o (be + i)) (C (be + i)))) (hs : g be = s) : ∀ i, be + i ≤ m → (∀ k, k < i → C (be + k) = en) → smT S (stO o be i) en s S.cnt = g (be + i)
  | 0, _, _ => by
    show smT S 0 en s S.cnt = g be
    rw [smT_fld, fld_none _ (fun j _ z => by rw [Nat.zero_div] at z; omega), hs]
  | i + 1, hi, hc => by
    show smT S (stO o be i ||| 2 ^ (jb o (be + i))) en s S.cnt = g (be + i + 1)
    rw [smT_ins (st_free h (by omega)) (h.1 _ (by omega)), sm_st (c := c) h hC hg hs i (by omega) (fun k hk => hc k (by omega)), hg i (by omega), hc i (by omega)]
theorem bt_path {S : Shp} (hk : Sok S) (hw : S.wh = 1) {o e : Nat → Int} {bc m : Nat} (h : Pok S.cnt o e bc m) (hf : Fam1 S o e bc) : ∀ b, b ≤ bc → pth S (btL o e b) 0 (-1) 0 (neu S) = (stO o 0 (bgn e b), lstB S o e b, frB S o e b, cstK S o e bc (bgn e b))
  | 0, _ => rfl
  | b + 1, hb => by
    have ih := bt_path hk hw h hf b (by omega)
    have hn := h.nx (b := b) (by omega)
    show pth S (btL o e b ++ [btS o e b]) 0 (-1) 0 (neu S) = _
    rw [pth_app, ih]
    show (stO o 0 (bgn e b) ||| btS o e b, sfT S.V (btS o e b) S.cnt, endS S (btS o e b) (lstB S o e b) (frB S o e b), smT S (btS o e b) (endS S (btS o e b) (lstB S o e b) (frB S o e b)) (cstK S o e bc (bgn e b)) S.cnt) = _
    have e1 : stO o 0 (bgn e b) ||| btS o e b = stO o 0 (bgn e (b + 1)) := by
      unfold btS; rw [stO_app]; congr 1; omega
    have e2 : sfT S.V (btS o e b) S.cnt = lstB S o e (b + 1) := by
      rw [bt_fam hk h hf (by omega)]; unfold lstB; rw [if_pos (by omega)]; rfl
    have e3 : endS S (btS o e b) (lstB S o e b) (frB S o e b) = frB S o e (b + 1) := by
      rw [bt_end hk hw h hf (by omega), bgn_succ]; rfl
    have e4 : smT S (btS o e b) (frB S o e (b + 1)) (cstK S o e bc (bgn e b)) S.cnt = cstK S o e bc (bgn e (b + 1)) := by
      have := sm_st (c := 0) h.inj (be := bgn e b) (en := frB S o e (b + 1)) (s := cstK S o e bc (bgn e b)) (C := cmK S o e bc) rfl (g := cstK S o e bc) (fun i _ => rfl) rfl (bgn e (b + 1) - bgn e b) (by omega) (fun k hk' => by
        unfold cmK
        rw [if_pos hw, bix_at h (b := b) (by omega) (by omega) bc (by omega) (Nat.le_refl _)])
      rw [show bgn e b + (bgn e (b + 1) - bgn e b) = bgn e (b + 1) by omega] at this
      exact this
    rw [e1, e2, e3, e4]
