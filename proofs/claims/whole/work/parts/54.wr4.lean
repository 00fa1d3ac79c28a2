/-! single jobs: the same -/
theorem pw2_i {s : Nat} (h : pw2 s = true) : ∃ j, j < 8 ∧ s = 2 ^ j := by
  unfold pw2 at h
  simp only [Bool.or_eq_true, beq_iff_eq] at h
  rcases h with (((((((h | h) | h) | h) | h) | h) | h) | h) <;> rw [h]
  · exact ⟨0, by decide, rfl⟩
  · exact ⟨1, by decide, rfl⟩
  · exact ⟨2, by decide, rfl⟩
  · exact ⟨3, by decide, rfl⟩
  · exact ⟨4, by decide, rfl⟩
  · exact ⟨5, by decide, rfl⟩
  · exact ⟨6, by decide, rfl⟩
  · exact ⟨7, by decide, rfl⟩
theorem pc_one {j : Nat} : ∀ c, pcT (2 ^ j) c = if j < c then 1 else 0
  | 0 => by rw [if_neg (by omega)]; rfl
  | c + 1 => by
    have h := pc_one (j := j) c
    have hb := b_pow j c
    unfold pcT
    by_cases q : j = c
    · rw [if_pos (hb.mpr q), h, if_neg (by omega), if_pos (by omega)]
    · rw [if_neg (fun z => q (hb.mp z)), h]
      by_cases q2 : j < c
      · rw [if_pos q2, if_pos (by omega)]
      · rw [if_neg q2, if_neg (by omega)]
theorem ok_one {S : Shp} (hw : S.wh ≠ 1) {t : Nat} (ht : t < 2 ^ S.cnt) (h : okS S t = true) : ∃ j, j < S.cnt ∧ t = 2 ^ j := by
  unfold okS at h
  rw [Bool.and_eq_true, Bool.and_eq_true, Bool.or_eq_true, decide_eq_true_iff] at h
  rcases h.1.2 with q | q
  · exact absurd q hw
  · obtain ⟨j, j1, j2⟩ := pw2_i q
    refine ⟨j, ?_, j2⟩
    rw [j2] at ht
    exact (Nat.pow_lt_pow_iff_right (by decide)).mp ht
theorem wr_item {S : Shp} (hk : Sok S) (hw : S.wh ≠ 1) {fi fl : Int} {ts : List Nat} (h : Gp S fi fl 0 (-1) 0 (neu S) ts) (h0 : 0 < S.cnt) {Q : PlS} (hQ : WN S.cnt (fun i => ts.getD i 0) ts.length Q) (hO : ∀ k, 0 ≤ Q.od k ∧ Q.od k ≤ 7) : Q.sz = S.cnt ∧ Sq S.cnt Q.od ∧ sgL Q.od S.cnt = ts ∧ sqC S Q.od Q.en = fl := by
  obtain ⟨g1, g2, g3⟩ := Gp_wr hk h
  obtain ⟨p1, p2⟩ := Gp_path ts _ _ _ _ h
  have pa := (path_at ts 0 p1).1
  obtain ⟨a1, a2, a3, a4, a5, a6, a7⟩ := hQ
  generalize hf : (fun i => ts.getD i 0) = f at *
  have hc := hk.c
  have hone : ∀ b, b < ts.length → pcT (f b) S.cnt = 1 := fun b hb => by
    obtain ⟨q1, q2⟩ := pa b hb
    obtain ⟨q3, -, -⟩ := alw_i q2
    obtain ⟨j, j1, j2⟩ := ok_one hw q1 q3
    rw [← hf]
    show pcT (ts.getD b 0) S.cnt = 1
    rw [j2, pc_one, if_pos j1]
  have hszi : ∀ b, b ≤ ts.length → szN S.cnt f b = b := fun b => by
    induction b with
    | zero => intro _; rfl
    | succ b ih =>
      intro hb
      show szN S.cnt f b + pcT (f b) S.cnt = b + 1
      rw [ih (by omega), hone b (by omega)]
  have hlen : ts.length = S.cnt := by rw [← hszi _ (Nat.le_refl _)]; exact g2
  have hsz : Q.sz = S.cnt := by omega
  have hsq : Sq S.cnt Q.od := ⟨hO, fun k hk' => (a5 k (by omega)).2, fun k k' x y => a7 k k' (by omega) (by omega)⟩
  have hbit : ∀ b, b < ts.length → 2 ^ (jb Q.od b) = f b := fun b hb => by
    have := a4 b hb
    rw [hszi b (by omega), hone b hb, one_st] at this
    exact this
  have hsg : sgL Q.od S.cnt = ts := by
    rw [sgL_lst, ← hlen, lst_congr _ (fun b hb => hbit b hb), ← hf]; exact lst_of ts
  refine ⟨hsz, hsq, hsg, ?_⟩
  have hP := hsq.pok hc (fmG S Q.od) Q.en
  have e1 := it_path hk hw hP gr_Fam1 (gr_Dif hk) _ (Nat.le_refl _)
  have hb : bgn (grE (fmG S Q.od) Q.en S.cnt) (grB (fmG S Q.od) S.cnt) = S.cnt := hP.2.2.2.2.1
  rw [hb, hsg] at e1
  rw [e1] at p2
  unfold sqC costP
  rw [if_neg (by omega)]
  exact p2
/-- the plan that writePlan writes for the first path of cost fl -/
theorem wr_cost {S : Shp} (hk : Sok S) {fi fl : Int} {ts : List Nat} (h : Gp S fi fl 0 (-1) 0 (neu S) ts) (h0 : 0 < S.cnt) {o e : Nat → Int} (hO : ∀ k, 0 ≤ o k ∧ o k ≤ 7) : (wrP S (fun i => ts.getD i 0) ts.length o e).sz = S.cnt ∧ Pok S.cnt (wrP S (fun i => ts.getD i 0) ts.length o e).od (wrP S (fun i => ts.getD i 0) ts.length o e).en (wrP S (fun i => ts.getD i 0) ts.length o e).bc S.cnt ∧ costP S (wrP S (fun i => ts.getD i 0) ts.length o e).od (wrP S (fun i => ts.getD i 0) ts.length o e).en (wrP S (fun i => ts.getD i 0) ts.length o e).bc S.cnt = fl := by
  have hW := wpN_st (o := o) (e := e) ts.length (path_wn (Gp_path ts _ _ _ _ h).1)
  have hOd := wpN_od (P := (0, 0, o, e)) hk.c (ts := fun i => ts.getD i 0) hO ts.length
  unfold wrP
  generalize wpN S.cnt (fun i => ts.getD i 0) (0, 0, o, e) ts.length = Q at *
  by_cases q : S.wh = 1
  · obtain ⟨b1, b2, b3, -⟩ := wr_batch hk q h h0 hW hOd
    simp only [if_pos q]
    exact ⟨b1, b2, b3⟩
  · obtain ⟨b1, b2, -, b4⟩ := wr_item hk q h h0 hW hOd
    simp only [if_neg q]
    rw [b1]
    exact ⟨rfl, b2.pok hk.c (fmG S Q.od) Q.en, b4⟩
