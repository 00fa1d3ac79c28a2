/-! all jobs done; a grouped sequence as a path of single jobs; no schedule costs less than the least -/
theorem rmT_ins {s j : Nat} (hj : ¬ s / 2 ^ j % 2 = 1) : ∀ c, rmT s c = if j < c then rmT (s ||| 2 ^ j) c + 1 else rmT (s ||| 2 ^ j) c
  | 0 => by rw [if_neg (by omega)]; rfl
  | c + 1 => by
    have h := rmT_ins hj c
    have hb := b_ins s j c
    unfold rmT
    by_cases q : j = c
    · rw [if_neg (show ¬ s / 2 ^ c % 2 = 1 by rw [← q]; exact hj), if_pos (show j < c + 1 by omega), if_pos (hb.mpr (Or.inr q)), h, if_neg (show ¬ j < c by omega)]
    · by_cases q2 : s / 2 ^ c % 2 = 1
      · rw [if_pos (hb.mpr (Or.inl q2)), if_pos q2, h]
        by_cases q3 : j < c
        · rw [if_pos q3, if_pos (by omega)]
        · rw [if_neg q3, if_neg (by omega)]
      · rw [if_neg (fun z => (hb.mp z).elim q2 q), if_neg q2, h]
        by_cases q3 : j < c
        · rw [if_pos q3, if_pos (by omega)]
        · rw [if_neg q3, if_neg (by omega)]
theorem rmT_0 : ∀ c, rmT 0 c = c
  | 0 => rfl
  | c + 1 => by unfold rmT; rw [Nat.zero_div, if_neg (by omega), rmT_0 c]
theorem rm_st {c m : Nat} {o : Nat → Int} (h : Inj c m o) : ∀ i, i ≤ m → rmT (stO o 0 i) c + i = c
  | 0, _ => by show rmT 0 c + 0 = c; rw [rmT_0]; rfl
  | i + 1, hi => by
    have h1 := rm_st h i (by omega)
    have h2 := rmT_ins (st_free h (be := 0) (i := i) (by omega)) c
    rw [if_pos (h.1 _ (by omega))] at h2
    show rmT (stO o 0 i ||| 2 ^ (jb o (0 + i))) c + (i + 1) = c
    omega
theorem st_all {S : Shp} {o : Nat → Int} (h : Inj S.cnt S.cnt o) : stO o 0 S.cnt = alS S := by
  have h1 := rm_st h S.cnt (Nat.le_refl _)
  exact rmT_zero (stO_lt _ (fun k hk => by rw [Nat.zero_add]; exact h.1 k hk)) (by omega)
/-- the first job is the one asked for -/
def Fst (fi : Int) (o : Nat → Int) : Prop := fi = -1 ∨ (0 ≤ fi ∧ jb o 0 = fi.toNat)
theorem alw_st {S : Shp} (hk : Sok S) {fi : Int} {m : Nat} {o : Nat → Int} (h : Inj S.cnt m o) (hf : Fst fi o) {be len : Nat} (hl : 0 < len) (hm : be + len ≤ m) (hF : sfT S.V (stO o be len) S.cnt ≠ -1) (hw : S.wh = 1 ∨ pw2 (stO o be len) = true) : stO o be len < 2 ^ S.cnt ∧ alw S fi (stO o 0 be) (stO o be len) = true := by
  have h0 : stO o be len ≠ 0 := fun z => by
    have := (stO_bit (o := o) (be := be) (j := jb o be) len).mpr ⟨0, hl, by rw [Nat.add_zero]⟩
    rw [z, Nat.zero_div] at this; omega
  refine ⟨stO_lt _ (fun k hk' => h.1 _ (by omega)), alw_mk ?_ (dis_of (fun j z => ?_)) ?_⟩
  · unfold okS
    rw [Bool.and_eq_true, Bool.and_eq_true, decide_eq_true_iff, bne_iff_ne, Bool.or_eq_true, decide_eq_true_iff]
    exact ⟨⟨h0, hw⟩, hF⟩
  · obtain ⟨k, k1, k2⟩ := (stO_bit _).mp z.1
    obtain ⟨k', k3, k4⟩ := (stO_bit _).mp z.2
    have := h.2 (be + k) (0 + k') (by omega) (by omega) (by rw [k2, k4])
    omega
  · by_cases q : be = 0
    · right
      rcases hf with q2 | ⟨q2, q3⟩
      · exact Or.inl q2
      · right; rw [q]; exact (stO_bit _).mpr ⟨0, hl, by rw [Nat.add_zero]; exact q3⟩
    · left
      intro z
      have := (stO_bit (o := o) (be := 0) (j := jb o 0) be).mpr ⟨0, by omega, rfl⟩
      rw [z, Nat.zero_div] at this; omega
theorem bt_valid {S : Shp} (hk : Sok S) (hw : S.wh = 1) {fi : Int} {o e : Nat → Int} {bc m : Nat} (h : Pok S.cnt o e bc m) (hf : Fam1 S o e bc) (hfi : Fst fi o) : ∀ b, b ≤ bc → pthV S fi (btL o e b) 0
  | 0, _ => trivial
  | b + 1, hb => by
    have ih := bt_valid hk hw h hf hfi b (by omega)
    have hn := h.nx (b := b) (by omega)
    have v := hk.v 0 (jb o (bgn e b))
    have ha := alw_st hk h.inj hfi (be := bgn e b) (len := bgn e (b + 1) - bgn e b) (by omega) (by omega) (by
      have := bt_fam hk h hf (b := b) (by omega)
      unfold btS at this
      rw [this]; omega) (Or.inl hw)
    refine pthV_app (l := 0) (f := 0) (s := 0) _ 0 (-1) 0 (neu S) ih ha.1 ?_
    rw [bt_path hk hw h hf b (by omega)]
    exact ha.2
/-- a complete plan of whole batches costs no less than the least -/
theorem fn_batch {S : Shp} (hk : Sok S) (hw : S.wh = 1) {fi : Int} {o e : Nat → Int} {bc : Nat} (h : Pok S.cnt o e bc S.cnt) (hf : Fam1 S o e bc) (hfi : Fst fi o) (h0 : 0 < S.cnt) : fnS S fi ≤ costP S o e bc S.cnt := by
  have e1 := bt_path hk hw h hf bc (Nat.le_refl _)
  have hb : bgn e bc = S.cnt := h.2.2.2.2.1
  have h1 := fn_path hk.c (fi := fi) (btL o e bc) 0 (-1) 0 (neu S) (Nat.one_le_two_pow) (pthV_ok _ _ (-1) 0 (neu S) (bt_valid hk hw h hf hfi bc (Nat.le_refl _)) (by rw [e1, hb]; exact st_all h.inj))
  rw [e1, hb] at h1
  unfold costP
  rw [if_neg (by omega)]
  exact h1
theorem one_st (o : Nat → Int) (be : Nat) : stO o be 1 = 2 ^ (jb o be) := by
  show 0 ||| 2 ^ (jb o (be + 0)) = _
  rw [Nat.zero_or, Nat.add_zero]
def sgL (o : Nat → Int) : Nat → List Nat
  | 0 => []
  | k + 1 => sgL o k ++ [2 ^ (jb o k)]
theorem one_fam {S : Shp} (hk : Sok S) {j : Nat} (hj : j < S.cnt) : sfT S.V (2 ^ j) S.cnt = S.V 0 j :=
  sf_is hk.v (fun i _ hb => by rw [(b_pow j i).mp hb]) hj ((b_pow j j).mpr rfl)
theorem one_end {S : Shp} (hk : Sok S) {j : Nat} (hj : j < S.cnt) (l f : Int) : endS S (2 ^ j) l f = max ((if S.er = 1 then f else max f (S.V 2 j)) + gapS S (l + 1).toNat (S.V 0 j).toNat) (S.V 2 j) + S.V 1 j := by
  have v := hk.v 2 j
  have e1 : srT S.V (2 ^ j) S.cnt = S.V 2 j := by
    have := srT_ins (V := S.V) (s := 0) (j := j) S.cnt
    rw [Nat.zero_or, if_pos hj, srT_zero] at this
    omega
  have e2 : swT S.V (2 ^ j) S.cnt = S.V 1 j := by
    have := swT_ins (V := S.V) (s := 0) (j := j) (by rw [Nat.zero_div]; omega) S.cnt
    rw [Nat.zero_or, if_pos hj, swT_zero] at this
    omega
  unfold endS
  rw [e1, e2, one_fam hk hj]
theorem one_sum {S : Shp} {j : Nat} (hj : j < S.cnt) (en s : Int) : smT S (2 ^ j) en s S.cnt = jn S s (pen S j en) := by
  have h := smT_ins (S := S) (t := 0) (j := j) (en := en) (s := s) (by rw [Nat.zero_div]; omega) hj
  rw [Nat.zero_or] at h
  rw [h, smT_fld, fld_none _ (fun i _ z => by rw [Nat.zero_div] at z; omega)]
/-- batches that follow each other have other families -/
def Dif (S : Shp) (o e : Nat → Int) (bc : Nat) : Prop := ∀ b, b < bc → lstB S o e b ≠ S.V 0 (jb o (bgn e b))
theorem lstB_r {S : Shp} (hV : Vok S.V) (o e : Nat → Int) (b : Nat) : -1 ≤ lstB S o e b ∧ lstB S o e b ≤ 3 := by
  have v := hV 0 (jb o (bgn e (b - 1)))
  unfold lstB
  split <;> omega
theorem sg_step {S : Shp} {o : Nat → Int} {k : Nat} {dn : Nat} {l f s : Int} (h : pth S (sgL o k) 0 (-1) 0 (neu S) = (dn, l, f, s)) : pth S (sgL o (k + 1)) 0 (-1) 0 (neu S) = (dn ||| 2 ^ (jb o k), sfT S.V (2 ^ (jb o k)) S.cnt, endS S (2 ^ (jb o k)) l f, smT S (2 ^ (jb o k)) (endS S (2 ^ (jb o k)) l f) s S.cnt) := by
  show pth S (sgL o k ++ [2 ^ (jb o k)]) 0 (-1) 0 (neu S) = _
  rw [pth_app, h]
  rfl
theorem it_in {S : Shp} (hk : Sok S) (hw : S.wh ≠ 1) {o e : Nat → Int} {bc m : Nat} (h : Pok S.cnt o e bc m) (hf : Fam1 S o e bc) (hd : Dif S o e bc) {b : Nat} (hb : b < bc) (h0 : pth S (sgL o (bgn e b)) 0 (-1) 0 (neu S) = (stO o 0 (bgn e b), lstB S o e b, frB S o e b, cstK S o e bc (bgn e b))) : ∀ i, i < bgn e (b + 1) - bgn e b → pth S (sgL o (bgn e b + (i + 1))) 0 (-1) 0 (neu S) = (stO o 0 (bgn e b + (i + 1)), S.V 0 (jb o (bgn e b)), ptm S o (f0B S o e b) (bgn e b) (i + 1), cstK S o e bc (bgn e b + (i + 1)))
  | 0, hi => by
    have hn := h.nx hb
    have hj := h.inj.1 (bgn e b) (by omega)
    have hl := lstB_r hk.v o e b
    have v0 : 0 ≤ S.V 0 (jb o (bgn e b)) := (hk.v 0 (jb o (bgn e b))).1
    have hdf := hd b hb
    rw [Nat.zero_add, sg_step h0]
    have e3 : endS S (2 ^ (jb o (bgn e b))) (lstB S o e b) (frB S o e b) = ptm S o (f0B S o e b) (bgn e b) 1 := by
      rw [one_end hk hj]
      show _ = max (f0B S o e b) (S.V 2 (jb o (bgn e b))) + S.V 1 (jb o (bgn e b))
      unfold f0B fst0 sst stp rdy gapS
      rw [if_neg hw, if_neg (show ¬ (lstB S o e b + 1).toNat = (S.V 0 (jb o (bgn e b))).toNat + 1 by omega), if_neg hw]
      omega
    have e4 : smT S (2 ^ (jb o (bgn e b))) (ptm S o (f0B S o e b) (bgn e b) 1) (cstK S o e bc (bgn e b)) S.cnt = cstK S o e bc (bgn e b + 1) := by
      rw [one_sum hj]
      show _ = jn S (cstK S o e bc (bgn e b)) (pen S (jb o (bgn e b)) (cmK S o e bc (bgn e b)))
      unfold cmK
      rw [if_neg hw, bix_at h (b := b) (by omega) (by omega) bc (by omega) (Nat.le_refl _), show bgn e b - bgn e b + 1 = 1 by omega]
    rw [e3, e4, one_fam hk hj]
    show (stO o 0 (bgn e b) ||| 2 ^ (jb o (bgn e b)), _) = (stO o 0 (bgn e b) ||| 2 ^ (jb o (0 + bgn e b)), _)
    rw [Nat.zero_add]
  | i + 1, hi => by
    have hn := h.nx hb
    have ih := it_in hk hw h hf hd hb h0 i (by omega)
    have hj := h.inj.1 (bgn e b + (i + 1)) (by omega)
    have v0 : 0 ≤ S.V 0 (jb o (bgn e b)) := (hk.v 0 (jb o (bgn e b))).1
    have hfm := hf b hb (bgn e b + (i + 1)) (by omega) (by omega)
    rw [show bgn e b + (i + 1 + 1) = bgn e b + (i + 1) + 1 by omega, sg_step ih]
    have e3 : endS S (2 ^ (jb o (bgn e b + (i + 1)))) (S.V 0 (jb o (bgn e b))) (ptm S o (f0B S o e b) (bgn e b) (i + 1)) = ptm S o (f0B S o e b) (bgn e b) (i + 1 + 1) := by
      rw [one_end hk hj, hfm]
      show _ = max (ptm S o (f0B S o e b) (bgn e b) (i + 1)) (S.V 2 (jb o (bgn e b + (i + 1)))) + S.V 1 (jb o (bgn e b + (i + 1)))
      unfold gapS
      rw [if_neg hw, if_pos (show (S.V 0 (jb o (bgn e b)) + 1).toNat = (S.V 0 (jb o (bgn e b))).toNat + 1 by omega)]
      split <;> omega
    have e4 : smT S (2 ^ (jb o (bgn e b + (i + 1)))) (ptm S o (f0B S o e b) (bgn e b) (i + 1 + 1)) (cstK S o e bc (bgn e b + (i + 1))) S.cnt = cstK S o e bc (bgn e b + (i + 1) + 1) := by
      rw [one_sum hj]
      show _ = jn S (cstK S o e bc (bgn e b + (i + 1))) (pen S (jb o (bgn e b + (i + 1))) (cmK S o e bc (bgn e b + (i + 1))))
      unfold cmK
      rw [if_neg hw, bix_at h (b := b) (by omega) (by omega) bc (by omega) (Nat.le_refl _), show bgn e b + (i + 1) - bgn e b + 1 = i + 1 + 1 by omega]
    rw [e3, e4, one_fam hk hj, hfm]
    show (stO o 0 (bgn e b + (i + 1)) ||| 2 ^ (jb o (bgn e b + (i + 1))), _) = (stO o 0 (bgn e b + (i + 1)) ||| 2 ^ (jb o (0 + (bgn e b + (i + 1)))), _)
    rw [Nat.zero_add]
theorem it_path {S : Shp} (hk : Sok S) (hw : S.wh ≠ 1) {o e : Nat → Int} {bc m : Nat} (h : Pok S.cnt o e bc m) (hf : Fam1 S o e bc) (hd : Dif S o e bc) : ∀ b, b ≤ bc → pth S (sgL o (bgn e b)) 0 (-1) 0 (neu S) = (stO o 0 (bgn e b), lstB S o e b, frB S o e b, cstK S o e bc (bgn e b))
  | 0, _ => rfl
  | b + 1, hb => by
    have hn := h.nx (b := b) (by omega)
    have h1 := it_in hk hw h hf hd (b := b) (by omega) (it_path hk hw h hf hd b (by omega)) (bgn e (b + 1) - bgn e b - 1) (by omega)
    rw [show bgn e b + (bgn e (b + 1) - bgn e b - 1 + 1) = bgn e (b + 1) by omega, show bgn e (b + 1) - bgn e b - 1 + 1 = bgn e (b + 1) - bgn e b by omega] at h1
    rw [h1]
    have e2 : lstB S o e (b + 1) = S.V 0 (jb o (bgn e b)) := by unfold lstB; rw [if_pos (by omega)]; rfl
    have e3 : frB S o e (b + 1) = ptm S o (f0B S o e b) (bgn e b) (bgn e (b + 1) - bgn e b) := by
      show fre S o (bgn e b) (e b).toNat (lstB S o e b) (frB S o e b) = _
      unfold fre f0B
      rw [bgn_succ]
    rw [e2, e3]
theorem pw2_one {j : Nat} (h : j < 8) : pw2 (2 ^ j) = true := pw2_pow h
theorem sg_valid {S : Shp} (hk : Sok S) {fi : Int} {m : Nat} {o : Nat → Int} (h : Inj S.cnt m o) (hfi : Fst fi o) : ∀ k, k ≤ m → pthV S fi (sgL o k) 0 ∧ ∀ l f s, (pth S (sgL o k) 0 l f s).1 = stO o 0 k
  | 0, _ => ⟨trivial, fun _ _ _ => rfl⟩
  | k + 1, hm => by
    obtain ⟨i1, i2⟩ := sg_valid hk h hfi k (by omega)
    have hj := h.1 k (by omega)
    have v := hk.v 0 (jb o k)
    have hc := hk.c
    have ha := alw_st hk h hfi (be := k) (len := 1) (by omega) (by omega) (by rw [one_st, one_fam hk hj]; omega) (Or.inr (by rw [one_st]; exact pw2_pow (by omega)))
    rw [one_st] at ha
    refine ⟨pthV_app (l := 0) (f := 0) (s := 0) _ 0 (-1) 0 (neu S) i1 ha.1 (by rw [i2]; exact ha.2), fun l f s => ?_⟩
    show (pth S (sgL o k ++ [2 ^ (jb o k)]) 0 l f s).1 = stO o 0 k ||| 2 ^ (jb o (0 + k))
    rw [pth_app, Nat.zero_add]
    show (pth S (sgL o k) 0 l f s).1 ||| 2 ^ (jb o k) = _
    rw [i2]
/-- a complete grouped plan of single jobs costs no less than the least -/
theorem fn_item {S : Shp} (hk : Sok S) (hw : S.wh ≠ 1) {fi : Int} {o e : Nat → Int} {bc : Nat} (h : Pok S.cnt o e bc S.cnt) (hf : Fam1 S o e bc) (hd : Dif S o e bc) (hfi : Fst fi o) (h0 : 0 < S.cnt) : fnS S fi ≤ costP S o e bc S.cnt := by
  have e1 := it_path hk hw h hf hd bc (Nat.le_refl _)
  have hb : bgn e bc = S.cnt := h.2.2.2.2.1
  rw [hb] at e1
  have h2 := sg_valid hk h.inj hfi S.cnt (Nat.le_refl _)
  have h1 := fn_path hk.c (fi := fi) (sgL o S.cnt) 0 (-1) 0 (neu S) (Nat.one_le_two_pow) (pthV_ok _ _ (-1) 0 (neu S) h2.1 (by rw [h2.2]; exact st_all h.inj))
  rw [e1] at h1
  unfold costP
  rw [if_neg (by omega)]
  exact h1
