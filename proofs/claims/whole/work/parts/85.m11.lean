/-! BatchMachineModel: improvement -/
/-- how many places of the base have been used when k places are laid -/
def nMv (i j k : Nat) : Nat := if (if k ≤ j then k else k - 1) ≤ i then (if k ≤ j then k else k - 1) else (if k ≤ j then k else k - 1) + 1
theorem nMv_at {o : Nat → Int} {i j k : Nat} (hk : k ≠ j) : o (if nMv i j k = i then nMv i j k + 1 else nMv i j k) = mvz o i j k := by
  unfold mvz
  rw [if_neg hk]
  have e : (if k ≤ j then k else k - 1) = (if k < j then k else k - 1) := by split <;> split <;> omega
  unfold nMv
  rw [e]
  generalize (if k < j then k else k - 1) = q
  by_cases z : q ≤ i
  · rw [if_pos z]
    by_cases y : q = i
    · rw [if_pos y, if_neg (by omega)]
    · rw [if_neg y, if_pos (by omega)]
  · rw [if_neg z, if_neg (by omega), if_neg (by omega)]
theorem nMv_next {i j k : Nat} : nMv i j (k + 1) = if k = j then nMv i j k else (if nMv i j k = i then nMv i j k + 1 else nMv i j k) + 1 := by
  unfold nMv
  by_cases z : k = j
  · have e1 : (if k + 1 ≤ j then k + 1 else k + 1 - 1) = k := by split <;> omega
    have e2 : (if k ≤ j then k else k - 1) = k := by split <;> omega
    rw [if_pos z, e1, e2]
  · rw [if_neg z]
    have e : (if k + 1 ≤ j then k + 1 else k + 1 - 1) = (if k ≤ j then k else k - 1) + 1 := by split <;> split <;> omega
    rw [e]
    generalize (if k ≤ j then k else k - 1) = q
    by_cases y : q ≤ i
    · rw [if_pos y]
      by_cases w : q = i
      · rw [if_pos w, if_neg (by omega)]
      · rw [if_neg w, if_pos (by omega)]
    · rw [if_neg y, if_neg (by omega), if_neg (by omega)]
theorem nMv_r {i j k m : Nat} (hk : k < m) (hj : j < m) (hi : i < m) (hkj : k ≠ j) : (if nMv i j k = i then nMv i j k + 1 else nMv i j k) < m ∧ nMv i j k ≤ k + 1 := by
  unfold nMv
  by_cases z : k ≤ j
  · simp only [if_pos z]
    by_cases y : k ≤ i
    · simp only [if_pos y]
      split <;> omega
    · simp only [if_neg y]
      split <;> omega
  · simp only [if_neg z]
    by_cases y : k - 1 ≤ i
    · simp only [if_pos y]
      split <;> omega
    · simp only [if_neg y]
      split <;> omega
theorem nMv_0 {i j : Nat} : nMv i j 0 = 0 := by
  unfold nMv
  have e1 : (if 0 ≤ j then 0 else 0 - 1) = 0 := by split <;> omega
  rw [e1]
  exact if_pos (Nat.zero_le _)
theorem nMv_le {i j k : Nat} : nMv i j k ≤ k + 1 := by
  unfold nMv
  split <;> split <;> omega
/-- any plan of the sequence has these marks -/
theorem SqP_GrP {S : Shp} {o : Nat → Int} {m : Nat} {Q : PlS} {sq op : Nat → Int} (hQ : GrP S o m Q) (h1 : ∀ k, k < m → sq k = o k) (h2 : ∀ k, k < m → YN (op k) (k = 0 ∨ fmG S o k ≠ fmG S o (k - 1))) : SqP sq op Q ∧ Q.sz = m := by
  obtain ⟨o', e', a1, a2, rfl⟩ := hQ
  refine ⟨SqP_gr (fun k hk => by rw [h1 k hk, a1 k hk]) (fun k hk => ?_), rfl⟩
  have e1 : fmG S o' k = fmG S o k := by unfold fmG; rw [a1 k hk]
  have e2 : fmG S o' (k - 1) = fmG S o (k - 1) := by unfold fmG; rw [a1 (k - 1) (by omega)]
  rw [e1, e2]
  exact h2 k hk
def mvP (S : Shp) (o : Nat → Int) (m i j : Nat) : PlS := (m, grB (fmG S (mvz o i j)) m, mvz o i j, grE (fmG S (mvz o i j)) (fun _ => 0) m)
theorem mvP_gr {S : Shp} {o : Nat → Int} {m i j : Nat} (hO : ∀ k, 0 ≤ o k ∧ o k ≤ 7) : GrP S (mvz o i j) m (mvP S o m i j) := by
  refine ⟨mvz o i j, fun _ => 0, fun _ _ => rfl, fun k => ?_, rfl⟩
  unfold mvz
  split
  · exact hO _
  · generalize (if k < j then k else k - 1) = q
    split <;> exact hO _
theorem mvP_cost {S : Shp} {P : PlS} {i j : Nat} : (cvS S (mvP S P.od P.sz i j) < cvS S P) ↔ imp S P i j := Iff.rfl
theorem Step_A {S : Shp} {P Q : PlS} {x : Int} (h : StepR S P x Q) {i : Nat} (h1 : i + 1 < P.sz) (h2 : ∀ i', i' < i → ¬ imp S P i' (i' + 1)) (h3 : imp S P i (i + 1)) : x = 1 ∧ GrP S (mvz P.od i (i + 1)) P.sz Q := by
  rcases h with ⟨hx, k, k1, k2, k3, k4⟩ | ⟨-, k1, -⟩ | ⟨-, -, k1, -⟩
  · have : i = k := by
      rcases (show i < k ∨ i = k ∨ k < i by omega) with z | z | z
      · exact absurd h3 (k2 i z)
      · exact z
      · exact absurd k3 (h2 k z)
    rw [this]
    exact ⟨hx, k4⟩
  · exact absurd h3 (k1 i h1)
  · exact absurd h3 (k1 i h1)
theorem Step_B {S : Shp} {P Q : PlS} {x : Int} (h : StepR S P x Q) (hA : ∀ i', i' + 1 < P.sz → ¬ imp S P i' (i' + 1)) {i j : Nat} (h1 : i < P.sz) (h2 : j < P.sz) (h3 : j ≠ i) (h4 : ∀ i' j', i' < i → j' < P.sz → j' ≠ i' → ¬ imp S P i' j') (h5 : ∀ j', j' < j → j' ≠ i → ¬ imp S P i j') (h6 : imp S P i j) : x = 1 ∧ GrP S (mvz P.od i j) P.sz Q := by
  rcases h with ⟨hx, k, k1, k2, k3, k4⟩ | ⟨hx, -, k, q, k1, k2, k3, k4, k5, k6, k7⟩ | ⟨-, -, -, k1⟩
  · exact absurd k3 (hA k k1)
  · have e1 : i = k := by
      rcases (show i < k ∨ i = k ∨ k < i by omega) with z | z | z
      · exact absurd h6 (k4 i j z h2 h3)
      · exact z
      · exact absurd k6 (h4 k q z k2 k3)
    subst e1
    have e2 : j = q := by
      rcases (show j < q ∨ j = q ∨ q < j by omega) with z | z | z
      · exact absurd h6 (k5 j z h3)
      · exact z
      · exact absurd k6 (h5 q z k3)
    subst e2
    exact ⟨hx, k7⟩
  · exact absurd h6 (k1 i j h1 h2 h3)
theorem Step_N {S : Shp} {P Q : PlS} {x : Int} (h : StepR S P x Q) (hA : ∀ i', i' + 1 < P.sz → ¬ imp S P i' (i' + 1)) (hB : ∀ i' j', i' < P.sz → j' < P.sz → j' ≠ i' → ¬ imp S P i' j') : x = 0 ∧ Q = P := by
  rcases h with ⟨hx, k, k1, k2, k3, k4⟩ | ⟨hx, -, k, q, k1, k2, k3, k4, k5, k6, k7⟩ | ⟨hx, hq, -⟩
  · exact absurd k3 (hA k k1)
  · exact absurd k6 (hB k q k1 k2 k3)
  · exact ⟨hx, hq⟩
theorem Imps_ch {S : Shp} : ∀ (k : Nat) {P Q : PlS}, PlOk S.cnt P → Imps S k P Q → ∃ R : Nat → PlS, R 0 = P ∧ R k = Q ∧ (∀ n, n < k → StepR S (R n) 1 (R (n + 1))) ∧ ∀ n, n ≤ k → PlOk S.cnt (R n)
  | 0, P, Q, hp, h => ⟨fun _ => P, rfl, h.symm, fun n hn => absurd hn (Nat.not_lt_zero _), fun _ _ => hp⟩
  | k + 1, P, Q, hp, h => by
    obtain ⟨R0, h1, h2⟩ := h
    obtain ⟨R, r1, r2, r3, r4⟩ := Imps_ch k hp h1
    refine ⟨fun n => if n ≤ k then R n else Q, ?_, ?_, fun n hn => ?_, fun n hn => ?_⟩
    · dsimp only
      rw [if_pos (Nat.zero_le _)]; exact r1
    · dsimp only
      rw [if_neg (by omega)]
    · dsimp only
      by_cases z : n < k
      · rw [if_pos (by omega), if_pos (by omega)]; exact r3 n z
      · rw [if_pos (by omega), if_neg (by omega), show n = k by omega, r2]; exact h2
    · dsimp only
      by_cases z : n ≤ k
      · rw [if_pos z]; exact r4 n z
      · rw [if_neg z]
        have := r4 k (Nat.le_refl _)
        rw [r2] at this
        exact (h2.ok this).1
set_option maxHeartbeats 4000000 in
set_option maxRecDepth 100000 in
theorem l_lmv {d n : Nat} {h : PH} {m : Nat} {S : Shp} {mm i j : Nat} {o : Nat → Int} {A sd op ss es bo su se tx ba le fr un sF sR sT ad : Nat → Int} {sm th bm tl nf ne nc : Int} (hd : 2 ≤ d) (hR : MR A S) (hk : Sok S) (hm8 : mm ≤ 8) (hsm : Sqm S.cnt mm o) (hi : i < mm) (hj : j < mm) (hba : ∀ k, k < mm → ba k = o k) : ∀ (c : Nat) (k : Nat) (sq1 : Nat → Int) (h1 : PH), (k + c = mm) → (∀ q, q < k → sq1 q = mvz o i j q) → (isModel n h1 m A sd sm th sq1 op (mm : Int) ss es bo su se bm tx tl ba le fr un nf ne nc sF sR sT ad) → (Fr h h1 m (m + 19)) → QN mX6_laysMoved d (FV n (fun h' => ∃ sq1 op1, isModel n h' m A sd sm th sq1 op1 (mm : Int) ss es bo su se bm tx tl ba le fr un nf ne nc sF sR sT ad ∧ (∀ k, k < mm → sq1 k = mvz o i j k) ∧ (∀ k, k < mm → YN (op1 k) (k = 0 ∨ fmG S (mvz o i j) k ≠ fmG S (mvz o i j) (k - 1))) ∧ Fr h h' m (m + 19))) 5 [some (vR m), some (vI (i : Int)), some (vI (j : Int)), some (vI ((nMv i j k : Nat) : Int)), some (vI (k : Int))] [] n h1 := by
  intro c
  induction c with
  | zero =>
    intro k sq1 h1 hc hq hM hF
    refine q_iload (pc' := 7) (dk_at dkX6_laysMoved 4 rfl) rfl rfl ?_
    refine q_aload_n (pc' := 8) (dk_at dkX6_laysMoved 5 rfl) rfl rfl ?_
    refine r_getf (pc' := 11) fl_RX6_119 (dk_at dkX6_laysMoved 6 rfl) hM.obj rfl rfl ?_
    refine q_icmp_ge (tgt := 71) (pc' := 14) (dk_at dkX6_laysMoved 7 rfl) rfl rfl (by omega) (by omega) (fun c11 => ?_) (fun c11 => ?_)
    · have ek : k = mm := by omega
      have hqa : ∀ q, q < mm → sq1 q = mvz o i j q := fun q hq1 => hq q (by omega)
      have hmm := mvz_sqm hsm hi hj
      have hsj : ∀ q, q < mm → jb (mvz o i j) q < S.cnt ∧ sq1 q = (jb (mvz o i j) q : Int) := fun q hq1 => by
        have a1 := hmm.1 q
        have a2 := hmm.2.1 q hq1
        rw [hqa q hq1]
        unfold jb
        omega
      refine q_aload_n (pc' := 72) (dk_at dkX6_laysMoved 40 rfl) rfl rfl ?_
      refine r_cVV (pc' := 75) (As := []) (S := []) cv_RX6_173 (dk_at dkX6_laysMoved 41 rfl) hM.obj rfl (k_M_opensByFamilies (d := 1) (mm := mm) (o := mvz o i j) (by omega) hR hk hk.c hm8 hsj hM) (by omega) (Nat.zero_le _) (Nat.zero_le _) rfl (Nat.le_of_ble_eq_true rfl) rfl (Nat.le_of_ble_eq_true rfl) rfl (fun hh2 hphh2 => ?_)
      obtain ⟨op1, hM, hop, hGf⟩ := hphh2
      have hF := hF.tr hGf (by omega)
      refine r_vret rfl (dk_at dkX6_laysMoved 42 rfl) ?_
      exact ⟨sq1, op1, hM, hqa, hop, hF⟩
    · exfalso
      omega
  | succ c ih =>
    intro k sq1 h1 hc hq hM hF
    refine q_iload (pc' := 7) (dk_at dkX6_laysMoved 4 rfl) rfl rfl ?_
    refine q_aload_n (pc' := 8) (dk_at dkX6_laysMoved 5 rfl) rfl rfl ?_
    refine r_getf (pc' := 11) fl_RX6_119 (dk_at dkX6_laysMoved 6 rfl) hM.obj rfl rfl ?_
    refine q_icmp_ge (tgt := 71) (pc' := 14) (dk_at dkX6_laysMoved 7 rfl) rfl rfl (by omega) (by omega) (fun c11 => ?_) (fun c11 => ?_)
    · have ek : k = mm := by omega
      have hqa : ∀ q, q < mm → sq1 q = mvz o i j q := fun q hq1 => hq q (by omega)
      have hmm := mvz_sqm hsm hi hj
      have hsj : ∀ q, q < mm → jb (mvz o i j) q < S.cnt ∧ sq1 q = (jb (mvz o i j) q : Int) := fun q hq1 => by
        have a1 := hmm.1 q
        have a2 := hmm.2.1 q hq1
        rw [hqa q hq1]
        unfold jb
        omega
      refine q_aload_n (pc' := 72) (dk_at dkX6_laysMoved 40 rfl) rfl rfl ?_
      refine r_cVV (pc' := 75) (As := []) (S := []) cv_RX6_173 (dk_at dkX6_laysMoved 41 rfl) hM.obj rfl (k_M_opensByFamilies (d := 1) (mm := mm) (o := mvz o i j) (by omega) hR hk hk.c hm8 hsj hM) (by omega) (Nat.zero_le _) (Nat.zero_le _) rfl (Nat.le_of_ble_eq_true rfl) rfl (Nat.le_of_ble_eq_true rfl) rfl (fun hh2 hphh2 => ?_)
      obtain ⟨op1, hM, hop, hGf⟩ := hphh2
      have hF := hF.tr hGf (by omega)
      refine r_vret rfl (dk_at dkX6_laysMoved 42 rfl) ?_
      exact ⟨sq1, op1, hM, hqa, hop, hF⟩
    · refine q_iload (pc' := 16) (dk_at dkX6_laysMoved 8 rfl) rfl rfl ?_
      refine q_iload_n (pc' := 17) (dk_at dkX6_laysMoved 9 rfl) rfl rfl ?_
      refine q_icmp_ne (tgt := 36) (pc' := 20) (dk_at dkX6_laysMoved 10 rfl) rfl rfl (by omega) (by omega) (fun c17 => ?_) (fun c17 => ?_)
      · have hnr := nMv_r (i := i) (j := j) (k := k) (m := mm) (by omega) hj hi (by omega)
        have hn9 : nMv i j k ≤ 9 := by omega
        refine q_iload_n (pc' := 37) (dk_at dkX6_laysMoved 20 rfl) rfl rfl ?_
        refine q_iload_n (pc' := 38) (dk_at dkX6_laysMoved 21 rfl) rfl rfl ?_
        refine q_iload_n (pc' := 39) (dk_at dkX6_laysMoved 22 rfl) rfl rfl ?_
        refine q_icmp_ne (tgt := 46) (pc' := 42) (dk_at dkX6_laysMoved 23 rfl) rfl rfl (by omega) (by omega) (fun c39 => ?_) (fun c39 => ?_)
        · refine q_iconst (pc' := 47) (dk_at dkX6_laysMoved 26 rfl) rfl ?_
          refine q_iadd (pc' := 48) (dk_at dkX6_laysMoved 27 rfl) rfl ?_
          obtain ⟨nx, enx⟩ : ∃ z, z = (if nMv i j k = i then nMv i j k + 1 else nMv i j k) := ⟨_, rfl⟩
          rw [← enx] at hnr
          rw [show ((((nMv i j k : Nat) : Int) + 0) : Int) = ((nx : Nat) : Int) by rw [enx]; split <;> omega]
          refine q_istore_n (pc' := 49) (L' := [some (vR m), some (vI (i : Int)), some (vI (j : Int)), some (vI (nx : Int)), some (vI (k : Int))]) (dk_at dkX6_laysMoved 28 rfl) (by decide) rfl rfl ?_
          refine q_aload_n (pc' := 50) (dk_at dkX6_laysMoved 29 rfl) rfl rfl ?_
          refine r_getf (pc' := 53) fl_RX6_16 (dk_at dkX6_laysMoved 30 rfl) hM.obj rfl rfl ?_
          refine q_iload (pc' := 55) (dk_at dkX6_laysMoved 31 rfl) rfl rfl ?_
          refine q_aload_n (pc' := 56) (dk_at dkX6_laysMoved 32 rfl) rfl rfl ?_
          refine r_getf (pc' := 59) fl_RX6_40 (dk_at dkX6_laysMoved 33 rfl) hM.obj rfl rfl ?_
          refine q_iload_n (pc' := 60) (dk_at dkX6_laysMoved 34 rfl) rfl rfl ?_
          refine r_iald (pc' := 61) (dk_at dkX6_laysMoved 35 rfl) hM.base nx (by omega) (by omega) (by decide) rfl ?_
          refine r_iast (pc' := 62) (dk_at dkX6_laysMoved 36 rfl) hM.sequence k (by omega) (by omega) (by decide) rfl (fun hh3 ehh3 => ?_)
          have hM := hM.w_sequence ehh3
          have hF := hF.put ehh3 (by omega)
          refine q_iinc (pc' := 65) (L' := [some (vR m), some (vI (i : Int)), some (vI (j : Int)), some (vI ((nx : Int) + 1)), some (vI (k : Int))]) (dk_at dkX6_laysMoved 37 rfl) (by decide) rfl rfl rfl ?_
          rw [show ((nx : Int) + 1) = ((nx + 1 : Nat) : Int) by omega]
          refine q_iinc (pc' := 68) (L' := [some (vR m), some (vI (i : Int)), some (vI (j : Int)), some (vI ((nx + 1 : Nat) : Int)), some (vI ((k : Int) + 1))]) (dk_at dkX6_laysMoved 38 rfl) (by decide) rfl rfl rfl ?_
          rw [show ((k : Int) + 1) = ((k + 1 : Nat) : Int) by omega]
          refine q_goto (tgt := 5) (dk_at dkX6_laysMoved 39 rfl) rfl ?_
          have enn := nMv_next (i := i) (j := j) (k := k)
          rw [if_neg (by omega), ← enx] at enn
          rw [← enn]
          refine ih (k + 1) _ _ (by omega) (fun q hq1 => ?_) hM hF
          by_cases z : q = k
          · rw [z, upz_eq, hba nx (by omega), enx]
            exact nMv_at (by omega)
          · rw [upz_ne z]; exact hq q (by omega)
        · refine q_iconst (pc' := 43) (dk_at dkX6_laysMoved 24 rfl) rfl ?_
          refine q_goto (tgt := 47) (dk_at dkX6_laysMoved 25 rfl) rfl ?_
          refine q_iadd (pc' := 48) (dk_at dkX6_laysMoved 27 rfl) rfl ?_
          obtain ⟨nx, enx⟩ : ∃ z, z = (if nMv i j k = i then nMv i j k + 1 else nMv i j k) := ⟨_, rfl⟩
          rw [← enx] at hnr
          rw [show ((((nMv i j k : Nat) : Int) + 1) : Int) = ((nx : Nat) : Int) by rw [enx]; split <;> omega]
          refine q_istore_n (pc' := 49) (L' := [some (vR m), some (vI (i : Int)), some (vI (j : Int)), some (vI (nx : Int)), some (vI (k : Int))]) (dk_at dkX6_laysMoved 28 rfl) (by decide) rfl rfl ?_
          refine q_aload_n (pc' := 50) (dk_at dkX6_laysMoved 29 rfl) rfl rfl ?_
          refine r_getf (pc' := 53) fl_RX6_16 (dk_at dkX6_laysMoved 30 rfl) hM.obj rfl rfl ?_
          refine q_iload (pc' := 55) (dk_at dkX6_laysMoved 31 rfl) rfl rfl ?_
          refine q_aload_n (pc' := 56) (dk_at dkX6_laysMoved 32 rfl) rfl rfl ?_
          refine r_getf (pc' := 59) fl_RX6_40 (dk_at dkX6_laysMoved 33 rfl) hM.obj rfl rfl ?_
          refine q_iload_n (pc' := 60) (dk_at dkX6_laysMoved 34 rfl) rfl rfl ?_
          refine r_iald (pc' := 61) (dk_at dkX6_laysMoved 35 rfl) hM.base nx (by omega) (by omega) (by decide) rfl ?_
          refine r_iast (pc' := 62) (dk_at dkX6_laysMoved 36 rfl) hM.sequence k (by omega) (by omega) (by decide) rfl (fun hh4 ehh4 => ?_)
          have hM := hM.w_sequence ehh4
          have hF := hF.put ehh4 (by omega)
          refine q_iinc (pc' := 65) (L' := [some (vR m), some (vI (i : Int)), some (vI (j : Int)), some (vI ((nx : Int) + 1)), some (vI (k : Int))]) (dk_at dkX6_laysMoved 37 rfl) (by decide) rfl rfl rfl ?_
          rw [show ((nx : Int) + 1) = ((nx + 1 : Nat) : Int) by omega]
          refine q_iinc (pc' := 68) (L' := [some (vR m), some (vI (i : Int)), some (vI (j : Int)), some (vI ((nx + 1 : Nat) : Int)), some (vI ((k : Int) + 1))]) (dk_at dkX6_laysMoved 38 rfl) (by decide) rfl rfl rfl ?_
          rw [show ((k : Int) + 1) = ((k + 1 : Nat) : Int) by omega]
          refine q_goto (tgt := 5) (dk_at dkX6_laysMoved 39 rfl) rfl ?_
          have enn := nMv_next (i := i) (j := j) (k := k)
          rw [if_neg (by omega), ← enx] at enn
          rw [← enn]
          refine ih (k + 1) _ _ (by omega) (fun q hq1 => ?_) hM hF
          by_cases z : q = k
          · rw [z, upz_eq, hba nx (by omega), enx]
            exact nMv_at (by omega)
          · rw [upz_ne z]; exact hq q (by omega)
      · refine q_aload_n (pc' := 21) (dk_at dkX6_laysMoved 11 rfl) rfl rfl ?_
        refine r_getf (pc' := 24) fl_RX6_16 (dk_at dkX6_laysMoved 12 rfl) hM.obj rfl rfl ?_
        refine q_iload (pc' := 26) (dk_at dkX6_laysMoved 13 rfl) rfl rfl ?_
        refine q_aload_n (pc' := 27) (dk_at dkX6_laysMoved 14 rfl) rfl rfl ?_
        refine r_getf (pc' := 30) fl_RX6_40 (dk_at dkX6_laysMoved 15 rfl) hM.obj rfl rfl ?_
        refine q_iload_n (pc' := 31) (dk_at dkX6_laysMoved 16 rfl) rfl rfl ?_
        refine r_iald (pc' := 32) (dk_at dkX6_laysMoved 17 rfl) hM.base i (by omega) (by omega) (by decide) rfl ?_
        refine r_iast (pc' := 33) (dk_at dkX6_laysMoved 18 rfl) hM.sequence k (by omega) (by omega) (by decide) rfl (fun hh5 ehh5 => ?_)
        have hM := hM.w_sequence ehh5
        have hF := hF.put ehh5 (by omega)
        refine q_goto (tgt := 65) (dk_at dkX6_laysMoved 19 rfl) rfl ?_
        refine q_iinc (pc' := 68) (L' := [some (vR m), some (vI (i : Int)), some (vI (j : Int)), some (vI ((nMv i j k : Nat) : Int)), some (vI ((k : Int) + 1))]) (dk_at dkX6_laysMoved 38 rfl) (by decide) rfl rfl rfl ?_
        rw [show ((k : Int) + 1) = ((k + 1 : Nat) : Int) by omega]
        refine q_goto (tgt := 5) (dk_at dkX6_laysMoved 39 rfl) rfl ?_
        have enn := nMv_next (i := i) (j := j) (k := k)
        rw [if_pos (by omega)] at enn
        rw [← enn]
        refine ih (k + 1) _ _ (by omega) (fun q hq1 => ?_) hM hF
        by_cases z : q = k
        · rw [z, upz_eq, hba i hi]
          unfold mvz
          rw [if_pos (by omega)]
        · rw [upz_ne z]; exact hq q (by omega)

set_option maxHeartbeats 4000000 in
set_option maxRecDepth 100000 in
theorem k_M_laysMoved {d n : Nat} {h : PH} {m : Nat} {A sd sq op ss es bo su se tx ba le fr un sF sR sT ad : Nat → Int} {sm th bm tl nf ne nc : Int} {S : Shp} {mm i j : Nat} {o : Nat → Int} (hd : 2 ≤ d) (hR : MR A S) (hk : Sok S) (hm8 : mm ≤ 8) (hsm : Sqm S.cnt mm o) (hi : i < mm) (hj : j < mm) (hba : ∀ k, k < mm → ba k = o k) (hM : isModel n h m A sd sm th sq op (mm : Int) ss es bo su se bm tx tl ba le fr un nf ne nc sF sR sT ad) : CtrV mX6_laysMoved d [vR m, vI (i : Int), vI (j : Int)] n h (fun h' => ∃ sq1 op1, isModel n h' m A sd sm th sq1 op1 (mm : Int) ss es bo su se bm tx tl ba le fr un nf ne nc sF sR sT ad ∧ (∀ k, k < mm → sq1 k = mvz o i j k) ∧ (∀ k, k < mm → YN (op1 k) (k = 0 ∨ fmG S (mvz o i j) k ≠ fmG S (mvz o i j) (k - 1))) ∧ Fr h h' m (m + 19)) := by
  have hF : Fr h h m (m + 19) := Fr.rf
  refine q_beginV (L := [some (vR m), some (vI (i : Int)), some (vI (j : Int)), none, none]) rfl ?_
  refine q_iconst (pc' := 1) (dk_at dkX6_laysMoved 0 rfl) rfl ?_
  refine q_istore_n (pc' := 2) (L' := [some (vR m), some (vI (i : Int)), some (vI (j : Int)), some (vI 0), none]) (dk_at dkX6_laysMoved 1 rfl) (by decide) rfl rfl ?_
  refine q_iconst (pc' := 3) (dk_at dkX6_laysMoved 2 rfl) rfl ?_
  refine q_istore (pc' := 5) (L' := [some (vR m), some (vI (i : Int)), some (vI (j : Int)), some (vI 0), some (vI 0)]) (dk_at dkX6_laysMoved 3 rfl) (by decide) rfl rfl ?_
  have e0 := nMv_0 (i := i) (j := j)
  have key := l_lmv (h := h) hd hR hk hm8 hsm hi hj hba mm 0 _ _ (by omega) (fun q hq => absurd hq (Nat.not_lt_zero _)) hM hF
  rw [e0] at key
  exact key

set_option maxHeartbeats 4000000 in
set_option maxRecDepth 100000 in
theorem l_imp3 {d n : Nat} {h : PH} {m : Nat} {S : Shp} {P Q : PlS} {x0 : Int} {A sd tx ba le fr un sF sR sT ad : Nat → Int} {sm th tl nf ne nc : Int} (hd : 5 ≤ d) (hR : MR A S) (hk : Sok S) (hkp : Pok S.cnt P.od P.en P.bc P.sz) (hP : MP A P) (hst : StepR S P x0 Q) (hp8 : P.sz ≤ 8) (hcr : -2000000 ≤ cvS S P ∧ cvS S P ≤ 300000000) (hba : ∀ k, k < P.sz → ba k = P.od k) (hA : ∀ i', i' + 1 < P.sz → ¬ imp S P i' (i' + 1)) {i : Nat} (hi : i < P.sz) (hBi : ∀ i' j', i' < i → j' < P.sz → j' ≠ i' → ¬ imp S P i' j') (hex : ∀ (sq1 op1 ss1 es1 bo1 su1 se1 : Nat → Int) (bm1 : Int) (h1 : PH) (j : Nat), (∀ j', j' < P.sz → j' ≠ i → ¬ imp S P i j') → isModel n h1 m A sd sm th sq1 op1 (P.sz : Int) ss1 es1 bo1 su1 se1 bm1 tx tl ba le fr un nf ne nc sF sR sT ad → Fr h h1 m (m + 19) → QN mX6_improves d (FI n (fun x h' => x = x0 ∧ ∃ A1 sq1 op1 ss1 es1 bo1 su1 se1 ba1 l1 bm1, isModel n h' m A1 sd sm th sq1 op1 l1 ss1 es1 bo1 su1 se1 bm1 tx tl ba1 le fr un nf ne nc sF sR sT ad ∧ (∀ q, q < 64 → A1 q = A q) ∧ MP A1 Q ∧ Fr h h' m (m + 19))) 125 [some (vR m), some (vI (cvS S P)), some (vI (P.sz : Int)), some (vI (i : Int)), some (vI (j : Int))] [] n h1) : ∀ (c : Nat) (j : Nat) (sq1 op1 ss1 es1 bo1 su1 se1 : Nat → Int) (bm1 : Int) (h1 : PH), (j + c = P.sz) → (∀ j', j' < j → j' ≠ i → ¬ imp S P i j') → (isModel n h1 m A sd sm th sq1 op1 (P.sz : Int) ss1 es1 bo1 su1 se1 bm1 tx tl ba le fr un nf ne nc sF sR sT ad) → (Fr h h1 m (m + 19)) → QN mX6_improves d (FI n (fun x h' => x = x0 ∧ ∃ A1 sq1 op1 ss1 es1 bo1 su1 se1 ba1 l1 bm1, isModel n h' m A1 sd sm th sq1 op1 l1 ss1 es1 bo1 su1 se1 bm1 tx tl ba1 le fr un nf ne nc sF sR sT ad ∧ (∀ q, q < 64 → A1 q = A q) ∧ MP A1 Q ∧ Fr h h' m (m + 19))) 86 [some (vR m), some (vI (cvS S P)), some (vI (P.sz : Int)), some (vI (i : Int)), some (vI (j : Int))] [] n h1 := by
  intro c
  induction c with
  | zero =>
    intro j sq1 op1 ss1 es1 bo1 su1 se1 bm1 h1 hc hBj hM hF
    refine q_iload (pc' := 88) (dk_at dkX6_improves 53 rfl) rfl rfl ?_
    refine q_iload_n (pc' := 89) (dk_at dkX6_improves 54 rfl) rfl rfl ?_
    refine q_icmp_ge (tgt := 125) (pc' := 92) (dk_at dkX6_improves 55 rfl) rfl rfl (by omega) (by omega) (fun c89 => ?_) (fun c89 => ?_)
    · first | (exfalso; omega; done) | exact hex _ _ _ _ _ _ _ _ _ j (fun j' hj' hn => hBj j' (by omega) hn) hM hF
    · exfalso
      omega
  | succ c ih =>
    intro j sq1 op1 ss1 es1 bo1 su1 se1 bm1 h1 hc hBj hM hF
    refine q_iload (pc' := 88) (dk_at dkX6_improves 53 rfl) rfl rfl ?_
    refine q_iload_n (pc' := 89) (dk_at dkX6_improves 54 rfl) rfl rfl ?_
    refine q_icmp_ge (tgt := 125) (pc' := 92) (dk_at dkX6_improves 55 rfl) rfl rfl (by omega) (by omega) (fun c89 => ?_) (fun c89 => ?_)
    · first | (exfalso; omega; done) | exact hex _ _ _ _ _ _ _ _ _ j (fun j' hj' hn => hBj j' (by omega) hn) hM hF
    · refine q_iload (pc' := 94) (dk_at dkX6_improves 56 rfl) rfl rfl ?_
      refine q_iload_n (pc' := 95) (dk_at dkX6_improves 57 rfl) rfl rfl ?_
      refine q_icmp_eq (tgt := 119) (pc' := 98) (dk_at dkX6_improves 58 rfl) rfl rfl (by omega) (by omega) (fun c95 => ?_) (fun c95 => ?_)
      · refine q_iinc (pc' := 122) (L' := [some (vR m), some (vI (cvS S P)), some (vI (P.sz : Int)), some (vI (i : Int)), some (vI ((j : Int) + 1))]) (dk_at dkX6_improves 71 rfl) (by decide) rfl rfl rfl ?_
        rw [show ((j : Int) + 1) = ((j + 1 : Nat) : Int) by omega]
        refine q_goto (tgt := 86) (dk_at dkX6_improves 72 rfl) rfl ?_
        refine ih (j + 1) _ _ _ _ _ _ _ _ _ (by omega) (fun j' hj' hn => hBj j' (by omega) hn) hM hF
      · refine q_aload_n (pc' := 99) (dk_at dkX6_improves 59 rfl) rfl rfl ?_
        refine q_iload_n (pc' := 100) (dk_at dkX6_improves 60 rfl) rfl rfl ?_
        refine q_iload (pc' := 102) (dk_at dkX6_improves 61 rfl) rfl rfl ?_
        refine r_cVV (pc' := 105) (As := [vI (i : Int), vI (j : Int)]) (S := []) cv_RX6_182 (dk_at dkX6_improves 62 rfl) hM.obj rfl (k_M_laysMoved (d := 3) (mm := P.sz) (i := i) (j := j) (o := P.od) (by omega) hR hk hp8 hkp.sqm (by omega) (by omega) hba hM) (by omega) (Nat.zero_le _) (Nat.zero_le _) rfl (Nat.le_of_ble_eq_true rfl) rfl (Nat.le_of_ble_eq_true rfl) rfl (fun hh2 hphh2 => ?_)
        obtain ⟨sq2, op2, hM, hq2, hop2, hGf⟩ := hphh2
        have hF := hF.tr hGf (by omega)
        have hSq2 := SqP_GrP (Q := mvP S P.od P.sz i j) (mvP_gr hkp.2.2.1) hq2 hop2
        refine q_aload_n (pc' := 106) (dk_at dkX6_improves 63 rfl) rfl rfl ?_
        refine r_cVI (pc' := 109) (As := []) (S := []) cv_RX6_163 (dk_at dkX6_improves 64 rfl) hM.obj rfl (k_M_runs (d := 3) (P := mvP S P.od P.sz i j) (by omega) hR hk (GrP.ok hp8 (mvz_sqm hkp.sqm (i := i) (j := j) (by omega) (by omega)) (mvP_gr hkp.2.2.1)).1 hSq2.1 hM) (by omega) (Nat.zero_le _) (Nat.zero_le _) rfl (Nat.le_of_ble_eq_true rfl) rfl (Nat.le_of_ble_eq_true rfl) rfl (fun xx3 hh4 hphh4 => ?_)
        obtain ⟨hx, ss2, es2, bo2, su2, se2, hM, hT, hGf⟩ := hphh4
        have hF := hF.tr hGf (by omega)
        have hmo := (GrP.ok hp8 (mvz_sqm hkp.sqm (i := i) (j := j) (by omega) (by omega)) (mvP_gr hkp.2.2.1)).1
        have hxr := cvS_r hk hmo
        subst hx
        refine q_iload_n (pc' := 110) (dk_at dkX6_improves 65 rfl) rfl rfl ?_
        refine q_icmp_ge (tgt := 119) (pc' := 113) (dk_at dkX6_improves 66 rfl) rfl rfl (by omega) (by omega) (fun c110 => ?_) (fun c110 => ?_)
        · refine q_iinc (pc' := 122) (L' := [some (vR m), some (vI (cvS S P)), some (vI (P.sz : Int)), some (vI (i : Int)), some (vI ((j : Int) + 1))]) (dk_at dkX6_improves 71 rfl) (by decide) rfl rfl rfl ?_
          rw [show ((j : Int) + 1) = ((j + 1 : Nat) : Int) by omega]
          refine q_goto (tgt := 86) (dk_at dkX6_improves 72 rfl) rfl ?_
          refine ih (j + 1) _ _ _ _ _ _ _ _ _ (by omega) (fun j' hj' hn => ?_) hM hF
          by_cases z : j' = j
          · rw [z]; exact fun y => by have := mvP_cost.mpr y; omega
          · exact hBj j' (by omega) hn
        · refine q_aload_n (pc' := 114) (dk_at dkX6_improves 67 rfl) rfl rfl ?_
          obtain ⟨hx1, hgr⟩ := Step_B hst hA (i := i) (j := j) (by omega) (by omega) (by omega) hBi hBj (mvP_cost.mp (by omega))
          obtain ⟨hSQ, hQs⟩ := SqP_GrP hgr hq2 hop2
          rw [← hQs] at hM
          refine r_cVV (pc' := 117) (As := []) (S := []) cv_RX6_160 (dk_at dkX6_improves 68 rfl) hM.obj rfl (k_M_keepsIt (d := 0) (P := Q) (by omega) hSQ hM) (by omega) (Nat.zero_le _) (Nat.zero_le _) rfl (Nat.le_of_ble_eq_true rfl) rfl (Nat.le_of_ble_eq_true rfl) rfl (fun hh6 hphh6 => ?_)
          obtain ⟨A1, hM, hA1, hP1, hGf⟩ := hphh6
          have hF := hF.tr hGf (by omega)
          refine q_iconst (pc' := 118) (dk_at dkX6_improves 69 rfl) rfl ?_
          refine r_zret rfl (by omega) (dk_at dkX6_improves 70 rfl) ?_
          exact ⟨by omega, A1, _, _, _, _, _, _, _, _, _, _, hM, hA1, hP1, hF⟩

set_option maxHeartbeats 4000000 in
set_option maxRecDepth 100000 in
theorem l_imp2 {d n : Nat} {h : PH} {m : Nat} {S : Shp} {P Q : PlS} {x0 : Int} {A sd tx ba le fr un sF sR sT ad : Nat → Int} {sm th tl nf ne nc : Int} (hd : 5 ≤ d) (hR : MR A S) (hk : Sok S) (hkp : Pok S.cnt P.od P.en P.bc P.sz) (hP : MP A P) (hst : StepR S P x0 Q) (hp8 : P.sz ≤ 8) (hcr : -2000000 ≤ cvS S P ∧ cvS S P ≤ 300000000) (hba : ∀ k, k < P.sz → ba k = P.od k) (hA : ∀ i', i' + 1 < P.sz → ¬ imp S P i' (i' + 1)) : ∀ (c : Nat) (i : Nat) (sq1 op1 ss1 es1 bo1 su1 se1 : Nat → Int) (bm1 : Int) (h1 : PH) (x4 : Option PV), (i + c = P.sz) → (∀ i' j', i' < i → j' < P.sz → j' ≠ i' → ¬ imp S P i' j') → (isModel n h1 m A sd sm th sq1 op1 (P.sz : Int) ss1 es1 bo1 su1 se1 bm1 tx tl ba le fr un nf ne nc sF sR sT ad) → (Fr h h1 m (m + 19)) → QN mX6_improves d (FI n (fun x h' => x = x0 ∧ ∃ A1 sq1 op1 ss1 es1 bo1 su1 se1 ba1 l1 bm1, isModel n h' m A1 sd sm th sq1 op1 l1 ss1 es1 bo1 su1 se1 bm1 tx tl ba1 le fr un nf ne nc sF sR sT ad ∧ (∀ q, q < 64 → A1 q = A q) ∧ MP A1 Q ∧ Fr h h' m (m + 19))) 78 [some (vR m), some (vI (cvS S P)), some (vI (P.sz : Int)), some (vI (i : Int)), x4] [] n h1 := by
  intro c
  induction c with
  | zero =>
    intro i sq1 op1 ss1 es1 bo1 su1 se1 bm1 h1 x4 hc hBi hM hF
    refine q_iload_n (pc' := 79) (dk_at dkX6_improves 48 rfl) rfl rfl ?_
    refine q_iload_n (pc' := 80) (dk_at dkX6_improves 49 rfl) rfl rfl ?_
    refine q_icmp_ge (tgt := 131) (pc' := 83) (dk_at dkX6_improves 50 rfl) rfl rfl (by omega) (by omega) (fun c80 => ?_) (fun c80 => ?_)
    · refine q_iconst (pc' := 132) (dk_at dkX6_improves 75 rfl) rfl ?_
      refine r_zret rfl (by omega) (dk_at dkX6_improves 76 rfl) ?_
      obtain ⟨e1, e2⟩ := Step_N hst hA (fun i' j' a b c => hBi i' j' (by omega) b c)
      exact ⟨e1.symm, A, _, _, _, _, _, _, _, _, _, _, hM, fun _ _ => rfl, by rw [e2]; exact hP, hF⟩
    · exfalso
      omega
  | succ c ih =>
    intro i sq1 op1 ss1 es1 bo1 su1 se1 bm1 h1 x4 hc hBi hM hF
    refine q_iload_n (pc' := 79) (dk_at dkX6_improves 48 rfl) rfl rfl ?_
    refine q_iload_n (pc' := 80) (dk_at dkX6_improves 49 rfl) rfl rfl ?_
    refine q_icmp_ge (tgt := 131) (pc' := 83) (dk_at dkX6_improves 50 rfl) rfl rfl (by omega) (by omega) (fun c80 => ?_) (fun c80 => ?_)
    · refine q_iconst (pc' := 132) (dk_at dkX6_improves 75 rfl) rfl ?_
      refine r_zret rfl (by omega) (dk_at dkX6_improves 76 rfl) ?_
      obtain ⟨e1, e2⟩ := Step_N hst hA (fun i' j' a b c => hBi i' j' (by omega) b c)
      exact ⟨e1.symm, A, _, _, _, _, _, _, _, _, _, _, hM, fun _ _ => rfl, by rw [e2]; exact hP, hF⟩
    · refine q_iconst (pc' := 84) (dk_at dkX6_improves 51 rfl) rfl ?_
      refine q_istore (pc' := 86) (L' := [some (vR m), some (vI (cvS S P)), some (vI (P.sz : Int)), some (vI (i : Int)), some (vI 0)]) (dk_at dkX6_improves 52 rfl) (by decide) rfl rfl ?_
      refine l_imp3 (h := h) hd hR hk hkp hP hst hp8 hcr hba hA (i := i) (by omega) hBi ?_ P.sz 0 _ _ _ _ _ _ _ _ _ (by omega) (fun j' hj' => absurd hj' (Nat.not_lt_zero _)) hM hF
      intro sq3 op3 ss3 es3 bo3 su3 se3 bm3 h3 j hBj hM hF
      refine q_iinc (pc' := 128) (L' := [some (vR m), some (vI (cvS S P)), some (vI (P.sz : Int)), some (vI ((i : Int) + 1)), some (vI (j : Int))]) (dk_at dkX6_improves 73 rfl) (by decide) rfl rfl rfl ?_
      rw [show ((i : Int) + 1) = ((i + 1 : Nat) : Int) by omega]
      refine q_goto (tgt := 78) (dk_at dkX6_improves 74 rfl) rfl ?_
      refine ih (i + 1) _ _ _ _ _ _ _ _ _ _ (by omega) (fun i' j' hi' hj' hn => ?_) hM hF
      by_cases z : i' = i
      · rw [z] at hn ⊢; exact hBj j' hj' hn
      · exact hBi i' j' (by omega) hj' hn

set_option maxHeartbeats 4000000 in
set_option maxRecDepth 100000 in
theorem l_imp1 {d n : Nat} {h : PH} {m : Nat} {S : Shp} {P Q : PlS} {x0 : Int} {A sd tx ba le fr un sF sR sT ad : Nat → Int} {sm th tl nf ne nc : Int} (hd : 5 ≤ d) (hR : MR A S) (hk : Sok S) (hkp : Pok S.cnt P.od P.en P.bc P.sz) (hP : MP A P) (hst : StepR S P x0 Q) (hp8 : P.sz ≤ 8) (hcr : -2000000 ≤ cvS S P ∧ cvS S P ≤ 300000000) (hba : ∀ k, k < P.sz → ba k = P.od k) : ∀ (c : Nat) (i : Nat) (sq1 op1 ss1 es1 bo1 su1 se1 : Nat → Int) (bm1 : Int) (h1 : PH), (i + c = P.sz) → (∀ i', i' < i → ¬ imp S P i' (i' + 1)) → (isModel n h1 m A sd sm th sq1 op1 (P.sz : Int) ss1 es1 bo1 su1 se1 bm1 tx tl ba le fr un nf ne nc sF sR sT ad) → (Fr h h1 m (m + 19)) → QN mX6_improves d (FI n (fun x h' => x = x0 ∧ ∃ A1 sq1 op1 ss1 es1 bo1 su1 se1 ba1 l1 bm1, isModel n h' m A1 sd sm th sq1 op1 l1 ss1 es1 bo1 su1 se1 bm1 tx tl ba1 le fr un nf ne nc sF sR sT ad ∧ (∀ q, q < 64 → A1 q = A q) ∧ MP A1 Q ∧ Fr h h' m (m + 19))) 41 [some (vR m), some (vI (cvS S P)), some (vI (P.sz : Int)), some (vI (i : Int)), none] [] n h1 := by
  intro c
  induction c with
  | zero =>
    intro i sq1 op1 ss1 es1 bo1 su1 se1 bm1 h1 hc hA hM hF
    refine q_iload_n (pc' := 42) (dk_at dkX6_improves 25 rfl) rfl rfl ?_
    refine q_iconst (pc' := 43) (dk_at dkX6_improves 26 rfl) rfl ?_
    refine q_iadd (pc' := 44) (dk_at dkX6_improves 27 rfl) rfl ?_
    refine q_iload_n (pc' := 45) (dk_at dkX6_improves 28 rfl) rfl rfl ?_
    refine q_icmp_ge (tgt := 76) (pc' := 48) (dk_at dkX6_improves 29 rfl) rfl rfl (by omega) (by omega) (fun c45 => ?_) (fun c45 => ?_)
    · refine q_iconst (pc' := 77) (dk_at dkX6_improves 46 rfl) rfl ?_
      refine q_istore_n (pc' := 78) (L' := [some (vR m), some (vI (cvS S P)), some (vI (P.sz : Int)), some (vI 0), none]) (dk_at dkX6_improves 47 rfl) (by decide) rfl rfl ?_
      exact l_imp2 (h := h) hd hR hk hkp hP hst hp8 hcr hba (fun i' hi' => hA i' (by omega)) P.sz 0 _ _ _ _ _ _ _ _ _ none (by omega) (fun i' j' hi' => absurd hi' (Nat.not_lt_zero _)) hM hF
    · exfalso
      omega
  | succ c ih =>
    intro i sq1 op1 ss1 es1 bo1 su1 se1 bm1 h1 hc hA hM hF
    refine q_iload_n (pc' := 42) (dk_at dkX6_improves 25 rfl) rfl rfl ?_
    refine q_iconst (pc' := 43) (dk_at dkX6_improves 26 rfl) rfl ?_
    refine q_iadd (pc' := 44) (dk_at dkX6_improves 27 rfl) rfl ?_
    refine q_iload_n (pc' := 45) (dk_at dkX6_improves 28 rfl) rfl rfl ?_
    refine q_icmp_ge (tgt := 76) (pc' := 48) (dk_at dkX6_improves 29 rfl) rfl rfl (by omega) (by omega) (fun c45 => ?_) (fun c45 => ?_)
    · refine q_iconst (pc' := 77) (dk_at dkX6_improves 46 rfl) rfl ?_
      refine q_istore_n (pc' := 78) (L' := [some (vR m), some (vI (cvS S P)), some (vI (P.sz : Int)), some (vI 0), none]) (dk_at dkX6_improves 47 rfl) (by decide) rfl rfl ?_
      exact l_imp2 (h := h) hd hR hk hkp hP hst hp8 hcr hba (fun i' hi' => hA i' (by omega)) P.sz 0 _ _ _ _ _ _ _ _ _ none (by omega) (fun i' j' hi' => absurd hi' (Nat.not_lt_zero _)) hM hF
    · refine q_aload_n (pc' := 49) (dk_at dkX6_improves 30 rfl) rfl rfl ?_
      refine q_iload_n (pc' := 50) (dk_at dkX6_improves 31 rfl) rfl rfl ?_
      refine q_iload_n (pc' := 51) (dk_at dkX6_improves 32 rfl) rfl rfl ?_
      refine q_iconst (pc' := 52) (dk_at dkX6_improves 33 rfl) rfl ?_
      refine q_iadd (pc' := 53) (dk_at dkX6_improves 34 rfl) rfl ?_
      rw [show ((i : Int) + 1) = ((i + 1 : Nat) : Int) by omega]
      refine r_cVV (pc' := 56) (As := [vI (i : Int), vI ((i + 1 : Nat) : Int)]) (S := []) cv_RX6_182 (dk_at dkX6_improves 35 rfl) hM.obj rfl (k_M_laysMoved (d := 3) (mm := P.sz) (i := i) (j := (i + 1)) (o := P.od) (by omega) hR hk hp8 hkp.sqm (by omega) (by omega) hba hM) (by omega) (Nat.zero_le _) (Nat.zero_le _) rfl (Nat.le_of_ble_eq_true rfl) rfl (Nat.le_of_ble_eq_true rfl) rfl (fun hh2 hphh2 => ?_)
      obtain ⟨sq2, op2, hM, hq2, hop2, hGf⟩ := hphh2
      have hF := hF.tr hGf (by omega)
      have hSq2 := SqP_GrP (Q := mvP S P.od P.sz i (i + 1)) (mvP_gr hkp.2.2.1) hq2 hop2
      refine q_aload_n (pc' := 57) (dk_at dkX6_improves 36 rfl) rfl rfl ?_
      refine r_cVI (pc' := 60) (As := []) (S := []) cv_RX6_163 (dk_at dkX6_improves 37 rfl) hM.obj rfl (k_M_runs (d := 3) (P := mvP S P.od P.sz i (i + 1)) (by omega) hR hk (GrP.ok hp8 (mvz_sqm hkp.sqm (i := i) (j := (i + 1)) (by omega) (by omega)) (mvP_gr hkp.2.2.1)).1 hSq2.1 hM) (by omega) (Nat.zero_le _) (Nat.zero_le _) rfl (Nat.le_of_ble_eq_true rfl) rfl (Nat.le_of_ble_eq_true rfl) rfl (fun xx3 hh4 hphh4 => ?_)
      obtain ⟨hx, ss2, es2, bo2, su2, se2, hM, hT, hGf⟩ := hphh4
      have hF := hF.tr hGf (by omega)
      have hmo := (GrP.ok hp8 (mvz_sqm hkp.sqm (i := i) (j := (i + 1)) (by omega) (by omega)) (mvP_gr hkp.2.2.1)).1
      have hxr := cvS_r hk hmo
      subst hx
      refine q_iload_n (pc' := 61) (dk_at dkX6_improves 38 rfl) rfl rfl ?_
      refine q_icmp_ge (tgt := 70) (pc' := 64) (dk_at dkX6_improves 39 rfl) rfl rfl (by omega) (by omega) (fun c61 => ?_) (fun c61 => ?_)
      · refine q_iinc (pc' := 73) (L' := [some (vR m), some (vI (cvS S P)), some (vI (P.sz : Int)), some (vI ((i : Int) + 1)), none]) (dk_at dkX6_improves 44 rfl) (by decide) rfl rfl rfl ?_
        rw [show ((i : Int) + 1) = ((i + 1 : Nat) : Int) by omega]
        refine q_goto (tgt := 41) (dk_at dkX6_improves 45 rfl) rfl ?_
        refine ih (i + 1) _ _ _ _ _ _ _ _ _ (by omega) (fun i' hi' => ?_) hM hF
        by_cases z : i' = i
        · rw [z]; exact fun y => by have := mvP_cost.mpr y; omega
        · exact hA i' (by omega)
      · refine q_aload_n (pc' := 65) (dk_at dkX6_improves 40 rfl) rfl rfl ?_
        obtain ⟨hx1, hgr⟩ := Step_A hst (i := i) (by omega) hA (mvP_cost.mp (by omega))
        obtain ⟨hSQ, hQs⟩ := SqP_GrP hgr hq2 hop2
        rw [← hQs] at hM
        refine r_cVV (pc' := 68) (As := []) (S := []) cv_RX6_160 (dk_at dkX6_improves 41 rfl) hM.obj rfl (k_M_keepsIt (d := 0) (P := Q) (by omega) hSQ hM) (by omega) (Nat.zero_le _) (Nat.zero_le _) rfl (Nat.le_of_ble_eq_true rfl) rfl (Nat.le_of_ble_eq_true rfl) rfl (fun hh6 hphh6 => ?_)
        obtain ⟨A1, hM, hA1, hP1, hGf⟩ := hphh6
        have hF := hF.tr hGf (by omega)
        refine q_iconst (pc' := 69) (dk_at dkX6_improves 42 rfl) rfl ?_
        refine r_zret rfl (by omega) (dk_at dkX6_improves 43 rfl) ?_
        exact ⟨by omega, A1, _, _, _, _, _, _, _, _, _, _, hM, hA1, hP1, hF⟩

set_option maxHeartbeats 4000000 in
set_option maxRecDepth 100000 in
theorem l_imp0 {d n : Nat} {h : PH} {m : Nat} {S : Shp} {P Q : PlS} {x0 : Int} {A sd tx le fr un sF sR sT ad : Nat → Int} {sm th tl nf ne nc : Int} {sq1 op1 ss1 es1 bo1 su1 se1 : Nat → Int} {bm1 : Int} (hd : 5 ≤ d) (hR : MR A S) (hk : Sok S) (hkp : Pok S.cnt P.od P.en P.bc P.sz) (hP : MP A P) (hst : StepR S P x0 Q) (hp8 : P.sz ≤ 8) (hcr : -2000000 ≤ cvS S P ∧ cvS S P ≤ 300000000) (hS : SqP sq1 op1 P) : ∀ (c : Nat) (k : Nat) (ba1 : Nat → Int) (h1 : PH), (k + c = P.sz) → (∀ q, q < k → ba1 q = P.od q) → (isModel n h1 m A sd sm th sq1 op1 (P.sz : Int) ss1 es1 bo1 su1 se1 bm1 tx tl ba1 le fr un nf ne nc sF sR sT ad) → (Fr h h1 m (m + 19)) → QN mX6_improves d (FI n (fun x h' => x = x0 ∧ ∃ A1 sq1 op1 ss1 es1 bo1 su1 se1 ba1 l1 bm1, isModel n h' m A1 sd sm th sq1 op1 l1 ss1 es1 bo1 su1 se1 bm1 tx tl ba1 le fr un nf ne nc sF sR sT ad ∧ (∀ q, q < 64 → A1 q = A q) ∧ MP A1 Q ∧ Fr h h' m (m + 19))) 16 [some (vR m), some (vI (cvS S P)), some (vI (P.sz : Int)), some (vI (k : Int)), none] [] n h1 := by
  intro c
  induction c with
  | zero =>
    intro k ba1 h1 hc hq hM hF
    refine q_iload_n (pc' := 17) (dk_at dkX6_improves 10 rfl) rfl rfl ?_
    refine q_iload_n (pc' := 18) (dk_at dkX6_improves 11 rfl) rfl rfl ?_
    refine q_icmp_ge (tgt := 39) (pc' := 21) (dk_at dkX6_improves 12 rfl) rfl rfl (by omega) (by omega) (fun c18 => ?_) (fun c18 => ?_)
    · refine q_iconst (pc' := 40) (dk_at dkX6_improves 23 rfl) rfl ?_
      refine q_istore_n (pc' := 41) (L' := [some (vR m), some (vI (cvS S P)), some (vI (P.sz : Int)), some (vI 0), none]) (dk_at dkX6_improves 24 rfl) (by decide) rfl rfl ?_
      exact l_imp1 (h := h) hd hR hk hkp hP hst hp8 hcr (fun q hq1 => hq q (by omega)) P.sz 0 _ _ _ _ _ _ _ _ _ (by omega) (fun i' hi' => absurd hi' (Nat.not_lt_zero _)) hM hF
    · exfalso
      omega
  | succ c ih =>
    intro k ba1 h1 hc hq hM hF
    refine q_iload_n (pc' := 17) (dk_at dkX6_improves 10 rfl) rfl rfl ?_
    refine q_iload_n (pc' := 18) (dk_at dkX6_improves 11 rfl) rfl rfl ?_
    refine q_icmp_ge (tgt := 39) (pc' := 21) (dk_at dkX6_improves 12 rfl) rfl rfl (by omega) (by omega) (fun c18 => ?_) (fun c18 => ?_)
    · refine q_iconst (pc' := 40) (dk_at dkX6_improves 23 rfl) rfl ?_
      refine q_istore_n (pc' := 41) (L' := [some (vR m), some (vI (cvS S P)), some (vI (P.sz : Int)), some (vI 0), none]) (dk_at dkX6_improves 24 rfl) (by decide) rfl rfl ?_
      exact l_imp1 (h := h) hd hR hk hkp hP hst hp8 hcr (fun q hq1 => hq q (by omega)) P.sz 0 _ _ _ _ _ _ _ _ _ (by omega) (fun i' hi' => absurd hi' (Nat.not_lt_zero _)) hM hF
    · refine q_aload_n (pc' := 22) (dk_at dkX6_improves 13 rfl) rfl rfl ?_
      refine r_getf (pc' := 25) fl_RX6_40 (dk_at dkX6_improves 14 rfl) hM.obj rfl rfl ?_
      refine q_iload_n (pc' := 26) (dk_at dkX6_improves 15 rfl) rfl rfl ?_
      refine q_aload_n (pc' := 27) (dk_at dkX6_improves 16 rfl) rfl rfl ?_
      refine r_getf (pc' := 30) fl_RX6_16 (dk_at dkX6_improves 17 rfl) hM.obj rfl rfl ?_
      refine q_iload_n (pc' := 31) (dk_at dkX6_improves 18 rfl) rfl rfl ?_
      refine r_iald (pc' := 32) (dk_at dkX6_improves 19 rfl) hM.sequence k (by omega) (by omega) (by decide) rfl ?_
      refine r_iast (pc' := 33) (dk_at dkX6_improves 20 rfl) hM.base k (by omega) (by omega) (by decide) rfl (fun hh1 ehh1 => ?_)
      have hM := hM.w_base ehh1
      have hF := hF.put ehh1 (by omega)
      refine q_iinc (pc' := 36) (L' := [some (vR m), some (vI (cvS S P)), some (vI (P.sz : Int)), some (vI ((k : Int) + 1)), none]) (dk_at dkX6_improves 21 rfl) (by decide) rfl rfl rfl ?_
      rw [show ((k : Int) + 1) = ((k + 1 : Nat) : Int) by omega]
      refine q_goto (tgt := 16) (dk_at dkX6_improves 22 rfl) rfl ?_
      refine ih (k + 1) _ _ (by omega) (fun q hq1 => ?_) hM hF
      by_cases z : q = k
      · rw [z, upz_eq]; exact hS.1 k (by omega)
      · rw [upz_ne z]; exact hq q (by omega)

set_option maxHeartbeats 4000000 in
set_option maxRecDepth 100000 in
theorem k_M_improves {d n : Nat} {h : PH} {m : Nat} {A sd sq op ss es bo su se tx ba le fr un sF sR sT ad : Nat → Int} {sm th l0 bm tl nf ne nc : Int} {S : Shp} {P Q : PlS} {x0 : Int} (hd : 5 ≤ d) (hR : MR A S) (hk : Sok S) (hkp : Pok S.cnt P.od P.en P.bc P.sz) (hP : MP A P) (hst : StepR S P x0 Q) (hM : isModel n h m A sd sm th sq op l0 ss es bo su se bm tx tl ba le fr un nf ne nc sF sR sT ad) : CtrI mX6_improves d [vR m] n h (fun x h' => x = x0 ∧ ∃ A1 sq1 op1 ss1 es1 bo1 su1 se1 ba1 l1 bm1, isModel n h' m A1 sd sm th sq1 op1 l1 ss1 es1 bo1 su1 se1 bm1 tx tl ba1 le fr un nf ne nc sF sR sT ad ∧ (∀ q, q < 64 → A1 q = A q) ∧ MP A1 Q ∧ Fr h h' m (m + 19)) := by
  have hF : Fr h h m (m + 19) := Fr.rf
  refine q_beginI (L := [some (vR m), none, none, none, none]) rfl ?_
  refine q_aload_n (pc' := 1) (dk_at dkX6_improves 0 rfl) rfl rfl ?_
  refine r_cVV (pc' := 4) (As := []) (S := []) cv_RX6_179 (dk_at dkX6_improves 1 rfl) hM.obj rfl (k_M_takesKept (d := 0) hkp.1 hP hM) (by omega) (Nat.zero_le _) (Nat.zero_le _) rfl (Nat.le_of_ble_eq_true rfl) rfl (Nat.le_of_ble_eq_true rfl) rfl (fun hh2 hphh2 => ?_)
  obtain ⟨sq1, op1, hM, hS, hGf⟩ := hphh2
  have hF := hF.tr hGf (by omega)
  refine q_aload_n (pc' := 5) (dk_at dkX6_improves 2 rfl) rfl rfl ?_
  refine r_cVI (pc' := 8) (As := []) (S := []) cv_RX6_163 (dk_at dkX6_improves 3 rfl) hM.obj rfl (k_M_runs (d := 3) (P := P) (by omega) hR hk hkp hS hM) (by omega) (Nat.zero_le _) (Nat.zero_le _) rfl (Nat.le_of_ble_eq_true rfl) rfl (Nat.le_of_ble_eq_true rfl) rfl (fun xx3 hh4 hphh4 => ?_)
  obtain ⟨hx, ss1, es1, bo1, su1, se1, hM, hT, hGf⟩ := hphh4
  have hF := hF.tr hGf (by omega)
  subst hx
  refine q_istore_n (pc' := 9) (L' := [some (vR m), some (vI (cvS S P)), none, none, none]) (dk_at dkX6_improves 4 rfl) (by decide) rfl rfl ?_
  refine q_aload_n (pc' := 10) (dk_at dkX6_improves 5 rfl) rfl rfl ?_
  refine r_getf (pc' := 13) fl_RX6_119 (dk_at dkX6_improves 6 rfl) hM.obj rfl rfl ?_
  refine q_istore_n (pc' := 14) (L' := [some (vR m), some (vI (cvS S P)), some (vI (P.sz : Int)), none, none]) (dk_at dkX6_improves 7 rfl) (by decide) rfl rfl ?_
  refine q_iconst (pc' := 15) (dk_at dkX6_improves 8 rfl) rfl ?_
  refine q_istore_n (pc' := 16) (L' := [some (vR m), some (vI (cvS S P)), some (vI (P.sz : Int)), some (vI 0), none]) (dk_at dkX6_improves 9 rfl) (by decide) rfl rfl ?_
  exact l_imp0 (h := h) hd hR hk hkp hP hst hkp.1 (cvS_r hk hkp) hS P.sz 0 _ _ (by omega) (fun q hq => absurd hq (Nat.not_lt_zero _)) hM hF

set_option maxHeartbeats 4000000 in
set_option maxRecDepth 100000 in
theorem l_impv {d n : Nat} {h : PH} {m : Nat} {S : Shp} {Q : PlS} {R : Nat → PlS} {s0 : Int} {k0 : Nat} {sd tx le fr un sF sR sT ad : Nat → Int} {sm th tl nf ne nc : Int} (hd : 30 ≤ d) (hk : Sok S) (hs0 : 0 ≤ s0 ∧ s0 ≤ 50) (hk0 : (k0 : Int) ≤ s0) (hst : ∀ n, n ≤ k0 → (n : Int) < s0 → StepR S (R n) (if n < k0 then 1 else 0) (R (n + 1))) (hok : ∀ n, n ≤ k0 + 1 → PlOk S.cnt (R n)) (hRk : R k0 = Q ∧ R (k0 + 1) = Q) : ∀ (c : Nat) (nn : Nat) (sq1 op1 ss1 es1 bo1 su1 se1 ba1 A1 : Nat → Int) (l1 bm1 : Int) (h1 : PH), (nn + c = 50) → (nn ≤ k0) → (MR A1 S) → (MP A1 (R nn)) → (isModel n h1 m A1 sd sm th sq1 op1 l1 ss1 es1 bo1 su1 se1 bm1 tx tl ba1 le fr un nf ne nc sF sR sT ad) → (Fr h h1 m (m + 19)) → QN mX6_improve d (FI n (fun v h' => v = (k0 : Int) ∧ ∃ (sq1 op1 ss1 es1 bo1 su1 se1 ba1 A1 : Nat → Int) (l1 bm1 : Int), isModel n h' m A1 sd sm th sq1 op1 l1 ss1 es1 bo1 su1 se1 bm1 tx tl ba1 le fr un nf ne nc sF sR sT ad ∧ MR A1 S ∧ MP A1 Q ∧ Fr h h' m (m + 19))) 25 [some (vR m), some (vI s0), some (vI (nn : Int))] [] n h1 := by
  intro c
  induction c with
  | zero =>
    intro nn sq1 op1 ss1 es1 bo1 su1 se1 ba1 A1 l1 bm1 h1 hc hnk hR hP hM hF
    refine q_iload_n (pc' := 26) (dk_at dkX6_improve 15 rfl) rfl rfl ?_
    refine q_iload_n (pc' := 27) (dk_at dkX6_improve 16 rfl) rfl rfl ?_
    refine q_icmp_ge (tgt := 43) (pc' := 30) (dk_at dkX6_improve 17 rfl) rfl rfl (by omega) (by omega) (fun c27 => ?_) (fun c27 => ?_)
    · refine q_iload_n (pc' := 44) (dk_at dkX6_improve 23 rfl) rfl rfl ?_
      refine r_iret rfl (dk_at dkX6_improve 24 rfl) ?_
      have e : nn = k0 := by omega
      rw [e, hRk.1] at hP
      exact ⟨by omega, _, _, _, _, _, _, _, _, _, _, _, hM, hR, hP, hF⟩
    · exfalso
      omega
  | succ c ih =>
    intro nn sq1 op1 ss1 es1 bo1 su1 se1 ba1 A1 l1 bm1 h1 hc hnk hR hP hM hF
    refine q_iload_n (pc' := 26) (dk_at dkX6_improve 15 rfl) rfl rfl ?_
    refine q_iload_n (pc' := 27) (dk_at dkX6_improve 16 rfl) rfl rfl ?_
    refine q_icmp_ge (tgt := 43) (pc' := 30) (dk_at dkX6_improve 17 rfl) rfl rfl (by omega) (by omega) (fun c27 => ?_) (fun c27 => ?_)
    · refine q_iload_n (pc' := 44) (dk_at dkX6_improve 23 rfl) rfl rfl ?_
      refine r_iret rfl (dk_at dkX6_improve 24 rfl) ?_
      have e : nn = k0 := by omega
      rw [e, hRk.1] at hP
      exact ⟨by omega, _, _, _, _, _, _, _, _, _, _, _, hM, hR, hP, hF⟩
    · refine q_aload_n (pc' := 31) (dk_at dkX6_improve 18 rfl) rfl rfl ?_
      refine r_cVI (pc' := 34) (As := []) (S := []) cv_RX6_186 (dk_at dkX6_improve 19 rfl) hM.obj rfl (k_M_improves (d := 20) (P := R nn) (Q := R (nn + 1)) (x0 := if nn < k0 then 1 else 0) (by omega) hR hk (hok nn (by omega)) hP (hst nn (by omega) (by omega)) hM) (by omega) (Nat.zero_le _) (Nat.zero_le _) rfl (Nat.le_of_ble_eq_true rfl) rfl (Nat.le_of_ble_eq_true rfl) rfl (fun xx1 hh2 hphh2 => ?_)
      obtain ⟨hx, A2, sq2, op2, ss2, es2, bo2, su2, se2, ba2, l2, bm2, hM, hA2, hP2, hGf⟩ := hphh2
      have hF := hF.tr hGf (by omega)
      have hR2 := hR.cong hA2 hk.c
      have hxb : xx1 = 0 ∨ xx1 = 1 := by rw [hx]; split <;> omega
      have hxk : xx1 = 0 → nn = k0 := by intro e; rw [hx] at e; split at e <;> omega
      have hxn : xx1 = 1 → nn < k0 := by intro e; rw [hx] at e; split at e <;> omega
      refine q_if_eq (tgt := 43) (pc' := 37) (dk_at dkX6_improve 20 rfl) rfl rfl (by omega) (fun c34 => ?_) (fun c34 => ?_)
      · refine q_iload_n (pc' := 44) (dk_at dkX6_improve 23 rfl) rfl rfl ?_
        refine r_iret rfl (dk_at dkX6_improve 24 rfl) ?_
        have e : nn = k0 := hxk (by omega)
        rw [e, hRk.2] at hP2
        exact ⟨by omega, _, _, _, _, _, _, _, _, _, _, _, hM, hR2, hP2, hF⟩
      · refine q_iinc (pc' := 40) (L' := [some (vR m), some (vI s0), some (vI ((nn : Int) + 1))]) (dk_at dkX6_improve 21 rfl) (by decide) rfl rfl rfl ?_
        rw [show ((nn : Int) + 1) = ((nn + 1 : Nat) : Int) by omega]
        refine q_goto (tgt := 25) (dk_at dkX6_improve 22 rfl) rfl ?_
        have hlt := hxn (by omega)
        exact ih (nn + 1) _ _ _ _ _ _ _ _ _ _ _ _ (by omega) (by omega) hR2 hP2 hM hF

theorem Imps_seq {S : Shp} {k : Nat} {P Q : PlS} {s0 : Int} (hp : PlOk S.cnt P) (h : Imps S k P Q) (hk : (k : Int) = s0 ∨ ((k : Int) < s0 ∧ StepR S Q 0 Q)) : ∃ R : Nat → PlS, R 0 = P ∧ (R k = Q ∧ R (k + 1) = Q) ∧ (∀ n, n ≤ k → (n : Int) < s0 → StepR S (R n) (if n < k then 1 else 0) (R (n + 1))) ∧ ∀ n, n ≤ k + 1 → PlOk S.cnt (R n) := by
  obtain ⟨R, r1, r2, r3, r4⟩ := Imps_ch k hp h
  have hQ := r4 k (Nat.le_refl _)
  rw [r2] at hQ
  refine ⟨fun n => if n ≤ k then R n else Q, ?_, ⟨?_, ?_⟩, fun n hn hs => ?_, fun n hn => ?_⟩
  · dsimp only
    rw [if_pos (Nat.zero_le _)]; exact r1
  · dsimp only
    rw [if_pos (Nat.le_refl _)]; exact r2
  · dsimp only
    rw [if_neg (by omega)]
  · dsimp only
    rw [if_pos hn]
    by_cases z : n < k
    · rw [if_pos z, if_pos (by omega)]; exact r3 n z
    · rw [if_neg z, if_neg (by omega), show n = k by omega, r2]
      rcases hk with y | y
      · exfalso; omega
      · exact y.2
  · dsimp only
    split
    · exact r4 n (by assumption)
    · exact hQ
set_option maxHeartbeats 4000000 in
set_option maxRecDepth 100000 in
theorem k_M_improve {d n : Nat} {h : PH} {m : Nat} {S : Shp} {P : PlS} {kn bs : Int} {sv tl : Nat} {x : Nat → Snp} {tx : Nat → Int} {th : Int} {s0 : Int} {k0 : Nat} {Q : PlS} (hd : 30 ≤ d) (hI : MOI n h m th ((S, P, kn, bs), sv, x, tx, tl)) (hO : BOk ((S, P, kn, bs), sv, x, tx, tl)) (hi1 : IR s0) (hcl : (0 ≤ s0 ∧ s0 ≤ 50) → Imps S k0 P Q ∧ ((k0 : Int) = s0 ∨ ((k0 : Int) < s0 ∧ StepR S Q 0 Q))) : CtrI mX6_improve d [vR m, vI s0] n h (fun v h' => ((0 ≤ s0 ∧ s0 ≤ 50) ∧ v = (k0 : Int) ∧ MOI n h' m 0 ((S, Q, kn, bs), pshN sv, (pshX sv x (S, P, kn, bs)), tx, tl) ∧ Fr h h' m (m + 19)) ∨ (¬ (0 ≤ s0 ∧ s0 ≤ 50) ∧ MOI n h' m 1 ((S, P, kn, bs), sv, x, tx, tl) ∧ Fr h h' m (m + 19))) := by
  obtain ⟨A, sd, sq, op, ss, es, bo, su, se, tx1, ba, le, fr, un, sF, sR, sT, ad, l0, bm, nf, ne, nc, hM, ⟨hR, hP⟩, hSv, hTx, hL⟩ := hI
  have hM : isModel n h m A sd (sv : Int) th sq op l0 ss es bo su se bm tx1 (tl : Int) ba le fr un nf ne nc sF sR sT ad := hM
  have hR : MR A S := hR
  have hP : MP A P := hP
  have hSv : MSv sd sv x := hSv
  have hTx : ∀ i, i < tl → tx1 i = tx i := hTx
  obtain ⟨hko, hsv, hks, htl, htx⟩ := hO
  have hko : SnOk (S, P, kn, bs) := hko
  have hsv : sv ≤ 4 := hsv
  have hks : ∀ i, i < sv → SnOk (x i) := hks
  have htl : tl ≤ 60 := htl
  have htx : ∀ i, 0 ≤ tx i ∧ tx i ≤ 127 := htx
  have hk : Sok S := hko.1
  have hc8 := hk.c
  have hkp : Pok S.cnt P.od P.en P.bc P.sz := hko.2.1
  have hp8 : P.sz ≤ 8 := hkp.1
  have hpb : P.bc ≤ P.sz := hkp.2.1
  have hA0 := hR.c
  have hF : Fr h h m (m + 19) := Fr.rf
  refine q_beginI (L := [some (vR m), some (vI s0), none]) rfl ?_
  refine q_aload_n (pc' := 1) (dk_at dkX6_improve 0 rfl) rfl rfl ?_
  refine q_iload_n (pc' := 2) (dk_at dkX6_improve 1 rfl) rfl rfl ?_
  refine q_i2l (pc' := 3) (dk_at dkX6_improve 2 rfl) (by omega) rfl ?_
  refine q_lconst0 (pc' := 4) (dk_at dkX6_improve 3 rfl) rfl ?_
  refine q_ldc2 (pc' := 7) (z := 50) kc_RX6_79 (by decide +kernel) (dk_at dkX6_improve 4 rfl) rfl ?_
  refine r_cSI (pc' := 10) (As := [vJ s0, vJ 0, vJ 50]) (S := [vR m]) cs_RX6_73 (dk_at dkX6_improve 5 rfl) (k_M_in (d := 0) (by omega) (by omega) (by omega)) (by omega) (Nat.zero_le _) (Nat.zero_le _) rfl (Nat.le_of_ble_eq_true rfl) rfl (Nat.le_of_ble_eq_true rfl) rfl (fun xx1 hh2 hphh2 => ?_)
  obtain ⟨qq3, y7⟩ := hphh2
  rw [qq3]
  have yr7 := y7.r
  refine q_iconst (pc' := 11) (dk_at dkX6_improve 6 rfl) rfl ?_
  refine r_cVI (pc' := 14) (As := [vI xx1, vI 1]) (S := []) cv_RX6_91 (dk_at dkX6_improve 7 rfl) hM.obj rfl (k_M_goes (d := 0) (by omega) (by omega) hM) (by omega) (Nat.zero_le _) (Nat.zero_le _) rfl (Nat.le_of_ble_eq_true rfl) rfl (Nat.le_of_ble_eq_true rfl) rfl (fun xx4 hh5 hphh5 => ?_)
  obtain ⟨y11, hM, hGf⟩ := hphh5
  have hF := hF.tr hGf (by omega)
  have yr11 := y11.r
  refine q_if_ne (tgt := 19) (pc' := 17) (dk_at dkX6_improve 8 rfl) rfl rfl (by omega) (fun c14 => ?_) (fun c14 => ?_)
  · have yy := y11.t (by omega)
    rw [if_neg (by omega), if_neg (by omega)] at hM
    have yw := y7.t (by omega)
    refine q_aload_n (pc' := 20) (dk_at dkX6_improve 11 rfl) rfl rfl ?_
    refine r_cVV (pc' := 23) (As := []) (S := []) cv_RX6_95 (dk_at dkX6_improve 12 rfl) hM.obj rfl (k_M_save (d := 0) (c := (S, P, kn, bs)) hko hks hsv ⟨hR, hP⟩ hSv hM) (by omega) (Nat.zero_le _) (Nat.zero_le _) rfl (Nat.le_of_ble_eq_true rfl) rfl (Nat.le_of_ble_eq_true rfl) rfl (fun hh7 hphh7 => ?_)
    obtain ⟨sd2, hM, hSv, hGf⟩ := hphh7
    have hF := hF.tr hGf (by omega)
    refine q_iconst (pc' := 24) (dk_at dkX6_improve 13 rfl) rfl ?_
    refine q_istore_n (pc' := 25) (L' := [some (vR m), some (vI s0), some (vI 0)]) (dk_at dkX6_improve 14 rfl) (by decide) rfl rfl ?_
    obtain ⟨hc1, hc2⟩ := hcl (by omega)
    obtain ⟨R, r1, r2, r3, r4⟩ := Imps_seq (show PlOk S.cnt P from hkp) hc1 hc2
    rw [← r1] at hP
    refine QNI_mono (l_impv (h := h) hd hk (by omega) (by omega) r3 r4 r2 50 0 _ _ _ _ _ _ _ _ _ _ _ _ (by omega) (by omega) hR hP hM hF) ?_
    rintro v h2 ⟨e, _, _, _, _, _, _, _, _, _, _, _, hM, hR, hP, hF⟩
    exact Or.inl ⟨by omega, e, ⟨_, _, _, _, _, _, _, _, _, _, _, _, _, _, _, _, _, _, _, _, _, _, _, hM, ⟨hR, hP⟩, hSv, hTx, hL⟩, hF⟩
  · refine q_iconst (pc' := 18) (dk_at dkX6_improve 9 rfl) rfl ?_
    refine r_iret rfl (dk_at dkX6_improve 10 rfl) ?_
    rw [if_pos (by have := y11.f (by omega); omega)] at hM
    exact Or.inr ⟨by have := y11.f (by omega); have := y7.f (by have := y7.r; omega); omega, ⟨_, _, _, _, _, _, _, _, _, _, _, _, _, _, _, _, _, _, _, _, _, _, _, hM, ⟨hR, hP⟩, hSv, hTx, hL⟩, hF⟩
