/-! the plan that is written for the first path costs what the path costs -/
def lst (f : Nat → Nat) : Nat → List Nat
  | 0 => []
  | n + 1 => lst f n ++ [f n]
theorem lst_shift {f : Nat → Nat} : ∀ n, lst f (n + 1) = f 0 :: lst (fun i => f (i + 1)) n
  | 0 => rfl
  | n + 1 => by
    show lst f (n + 1) ++ [f (n + 1)] = f 0 :: (lst (fun i => f (i + 1)) n ++ [f (n + 1)])
    rw [lst_shift n]; rfl
theorem lst_of : ∀ ts : List Nat, lst (fun i => ts.getD i 0) ts.length = ts
  | [] => rfl
  | t :: ts => by
    rw [List.length_cons, lst_shift]
    show t :: lst (fun i => ts.getD i 0) ts.length = t :: ts
    rw [lst_of ts]
theorem lst_congr {f g : Nat → Nat} : ∀ n, (∀ i, i < n → f i = g i) → lst f n = lst g n
  | 0, _ => rfl
  | n + 1, h => by unfold lst; rw [lst_congr n (fun i hi => h i (by omega)), h n (by omega)]
theorem btL_lst {o e : Nat → Int} : ∀ n, btL o e n = lst (btS o e) n
  | 0 => rfl
  | n + 1 => by unfold btL lst; rw [btL_lst n]
theorem sgL_lst {o : Nat → Int} : ∀ n, sgL o n = lst (fun k => 2 ^ (jb o k)) n
  | 0 => rfl
  | n + 1 => by unfold sgL lst; rw [sgL_lst n]
theorem path_wn {S : Shp} {fi : Int} {ts : List Nat} (h : pthOk S fi ts 0) : ∀ b, b < ts.length → (fun i => ts.getD i 0) b < 2 ^ S.cnt ∧ (fun i => ts.getD i 0) b ≠ 0 ∧ (fun i => ts.getD i 0) b &&& dnN (fun i => ts.getD i 0) 0 b = 0 := fun b hb => by
  obtain ⟨h1, h2⟩ := (path_at ts 0 h).1 b hb
  obtain ⟨a1, a2, -⟩ := alw_i h2
  exact ⟨h1, (okS_i a1).1, a2⟩
/-- whole batches -/
theorem wr_batch {S : Shp} (hk : Sok S) (hw : S.wh = 1) {fi fl : Int} {ts : List Nat} (h : Gp S fi fl 0 (-1) 0 (neu S) ts) (h0 : 0 < S.cnt) {Q : PlS} (hQ : WN S.cnt (fun i => ts.getD i 0) ts.length Q) (hO : ∀ k, 0 ≤ Q.od k ∧ Q.od k ≤ 7) : Q.sz = S.cnt ∧ Pok S.cnt Q.od Q.en Q.bc S.cnt ∧ costP S Q.od Q.en Q.bc S.cnt = fl ∧ Fam1 S Q.od Q.en Q.bc := by
  obtain ⟨g1, g2, g3⟩ := Gp_wr hk h
  obtain ⟨p1, p2⟩ := Gp_path ts _ _ _ _ h
  have pa := (path_at ts 0 p1).1
  obtain ⟨a1, a2, a3, a4, a5, a6, a7⟩ := hQ
  generalize hf : (fun i => ts.getD i 0) = f at *
  have hc := hk.c
  have eb : ∀ b, b ≤ ts.length → bgn Q.en b = szN S.cnt f b := fun b hb => by
    cases b with
    | zero => rfl
    | succ b => rw [bgn_succ, a3 b (by omega)]; omega
  have hpos : ∀ b, b < ts.length → 0 < pcT (f b) S.cnt := fun b hb => by
    obtain ⟨q1, q2⟩ := pa b hb
    obtain ⟨q3, -, -⟩ := alw_i q2
    obtain ⟨j, j1, j2⟩ := bit_ex (okS_i q3).1 S.cnt q1
    rw [← hf]; exact pc_pos j2 S.cnt j1
  have hsz : Q.sz = S.cnt := by omega
  have hlen : ts.length ≤ S.cnt := by
    have := (path_sz ts 0 p1).2.1
    rw [rmT_0] at this; exact this
  have hP : Pok S.cnt Q.od Q.en Q.bc S.cnt := by
    refine ⟨hc, by omega, hO, fun b hb => ?_, ?_, fun k hk' => (a5 k (by omega)).2, fun k k' x y => a7 k k' (by omega) (by omega)⟩
    · have e1 : szN S.cnt f (b + 1) = szN S.cnt f b + pcT (f b) S.cnt := rfl
      have e2 := szN_mono (c := S.cnt) (ts := f) (i := b + 1) ts.length (by omega)
      have e3 := hpos b (by omega)
      rw [eb b (by omega), a3 b (by omega)]
      omega
    · rw [a2, eb _ (Nat.le_refl _)]; exact g2
  have hbt : ∀ b, b < ts.length → btS Q.od Q.en b = f b := fun b hb => by
    have e1 : szN S.cnt f (b + 1) = szN S.cnt f b + pcT (f b) S.cnt := rfl
    unfold btS
    rw [eb b (by omega), eb (b + 1) (by omega), e1, show szN S.cnt f b + pcT (f b) S.cnt - szN S.cnt f b = pcT (f b) S.cnt by omega]
    exact a4 b hb
  have hF : Fam1 S Q.od Q.en Q.bc := fun b hb k k1 k2 => by
    obtain ⟨q1, q2⟩ := pa b (by omega)
    obtain ⟨q3, -, -⟩ := alw_i q2
    have ef : ts.getD b 0 = f b := by rw [← hf]
    rw [ef] at q1 q3
    have hn := hP.nx hb
    have m1 : ∀ k, bgn Q.en b ≤ k → k < bgn Q.en (b + 1) → S.V 0 (jb Q.od k) = sfT S.V (f b) S.cnt := fun k k1 k2 => by
      refine sf_mem hk.v ?_ S.cnt (okS_i q3).2 (hP.inj.1 k (by omega))
      rw [← hbt b (by omega)]
      exact (stO_bit _).mpr ⟨k - bgn Q.en b, by omega, by rw [show bgn Q.en b + (k - bgn Q.en b) = k by omega]⟩
    rw [m1 k k1 k2, m1 (bgn Q.en b) (Nat.le_refl _) hn.1]
  refine ⟨hsz, hP, ?_, hF⟩
  have e1 := bt_path hk hw hP hF Q.bc (Nat.le_refl _)
  have e2 : btL Q.od Q.en Q.bc = ts := by
    rw [btL_lst, a2, lst_congr _ (fun b hb => hbt b hb), ← hf]; exact lst_of ts
  rw [e2] at e1
  rw [e1] at p2
  unfold costP
  rw [if_neg (by omega)]
  have hb : bgn Q.en Q.bc = S.cnt := hP.2.2.2.2.1
  rw [hb] at p2
  exact p2
