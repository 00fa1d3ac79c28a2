/-! BatchMachine: parse, improve -/
theorem rdR_r {S : Shp} {tx o e : Nat → Int} {tl : Nat} {v : Int} (h : rdR S tx tl o e v) (ht : tl ≤ 60) : -1 ≤ v ∧ v ≤ 60 := by
  rcases h with ⟨i, h1, -, -, h4⟩ | ⟨-, h2⟩
  · omega
  · rw [h2]
    split <;> omega
set_option maxHeartbeats 4000000 in
set_option maxRecDepth 100000 in
theorem k_BM_parse {d n : Nat} {h : PH} {b : Nat} {S : Shp} {P : PlS} {kn bs : Int} {sv tl : Nat} {x : Nat → Snp} {tx : Nat → Int}  (hd : 20 ≤ d) (hI : BMI n h b ((S, P, kn, bs), sv, x, tx, tl)) (hO : BOk ((S, P, kn, bs), sv, x, tx, tl))  : CtrI mX5_parse d [vR b] n h (fun v h' => ∃ o e v0, (∀ j, 0 ≤ o j ∧ o j ≤ 7) ∧ rdR S tx tl o e v0 ∧ ((v0 ≠ -1 ∧ v = -10 - v0 ∧ BMI n h' b ((S, P, kn, bs), sv, x, tx, tl) ∧ Fr h h' b (b + 149)) ∨ (v0 = -1 ∧ v = ((rdS tx o e tl).1.bc : Int) ∧ BMI n h' b ((S, (rdS tx o e tl).1, kn, bs), pshN sv, (pshX sv x (S, P, kn, bs)), tx, tl) ∧ Fr h h' b (b + 149)))) := by
  obtain ⟨hB, hSt, hZ, hR⟩ := hI
  have hB : isBM n h b (sv : Int) tx (tl : Int) := hB
  obtain ⟨hN, hQ, hK⟩ := hSt
  have hN : isState n h (b + 1) kn bs := hN
  have hQ : isShp n h (b + 2) S := hQ
  have hK : isPlS n h (b + 15) P := hK
  have hZ : SvI n h b x := hZ
  obtain ⟨hk, hsv, hks, htl, htx⟩ := hO
  have hk : SnOk (S, P, kn, bs) := hk
  have hsv : sv ≤ 4 := hsv
  have htl : tl ≤ 60 := htl
  have htx : ∀ i, 0 ≤ tx i ∧ tx i ≤ 127 := htx
  have hk1 : Sok S := hk.1
  have hc8 := hk1.c
  have hkp : Pok S.cnt P.od P.en P.bc P.sz := hk.2.1
  have hp8 : P.sz ≤ 8 := hkp.1
  have hpb : P.bc ≤ P.sz := hkp.2.1
  have hkb : Bst S kn bs := hk.2.2
  have hkn := hkb.1
  have hF : Fr h h b (b + 149) := Fr.rf
  refine q_beginI (L := [some (vR b), none]) rfl ?_
  obtain ⟨hD, hM, hU, hX⟩ := hR
  obtain ⟨sz0, bc0, o0, e0, hD, hO0⟩ := hD
  refine q_aload_n (pc' := 1) (dk_at dkX5_parse 0 rfl) rfl rfl ?_
  refine r_cVI (pc' := 4) (As := []) (S := []) cv_RX5_135 (dk_at dkX5_parse 1 rfl) hB.obj rfl (k_BM_readText (d := 2) (by omega) hc8 hk1.v htl htx hO0 hB hN hQ hD) (by omega) (Nat.zero_le _) (Nat.zero_le _) rfl (Nat.le_of_ble_eq_true rfl) rfl (Nat.le_of_ble_eq_true rfl) rfl (fun xx1 hh2 hphh2 => ?_)
  obtain ⟨hrd, D, f, us, ⟨i, hi, hri, hi2⟩, hok, hB, hN, hQ, hD, hGf⟩ := hphh2
  have hK := isPlan.frm hK hGf (by omega)
  have hZ := SvI.frm hZ hGf (by omega)
  have hU := ShA.frm hU hGf (by omega)
  have hX := SxP.frm hX hGf (by omega)
  have hM := TmP.frm hM hGf (by omega)
  have hF := hF.tr hGf (by omega)
  have hvr := rdR_r hrd htl
  refine q_istore_n (pc' := 5) (L' := [some (vR b), some (vI xx1)]) (dk_at dkX5_parse 2 rfl) (by decide) rfl rfl ?_
  refine q_iload_n (pc' := 6) (dk_at dkX5_parse 3 rfl) rfl rfl ?_
  refine q_iconst (pc' := 7) (dk_at dkX5_parse 4 rfl) rfl ?_
  refine q_icmp_eq (tgt := 15) (pc' := 10) (dk_at dkX5_parse 5 rfl) rfl rfl (by omega) (by omega) (fun c7 => ?_) (fun c7 => ?_)
  · refine q_aload_n (pc' := 16) (dk_at dkX5_parse 10 rfl) rfl rfl ?_
    refine r_cVV (pc' := 19) (As := []) (S := []) cv_RX5_75 (dk_at dkX5_parse 11 rfl) hB.obj rfl (k_BM_saveState (d := 4) (c := (S, P, kn, bs)) (by omega) hk hsv hB ⟨hN, hQ, hK⟩ hZ) (by omega) (Nat.zero_le _) (Nat.zero_le _) rfl (Nat.le_of_ble_eq_true rfl) rfl (Nat.le_of_ble_eq_true rfl) rfl (fun hh4 hphh4 => ?_)
    obtain ⟨hB, hSt, hZ, hGf⟩ := hphh4
    obtain ⟨hN, hQ, hK⟩ := hSt
    have hN : isState n hh4 (b + 1) kn bs := hN
    have hQ : isShp n hh4 (b + 2) S := hQ
    have hK : isPlS n hh4 (b + 15) P := hK
    have hD := isPlan.frm hD hGf (by omega)
    have hU := ShA.frm hU hGf (by omega)
    have hX := SxP.frm hX hGf (by omega)
    have hM := TmP.frm hM hGf (by omega)
    have hF := hF.tr hGf (by omega)
    refine q_aload_n (pc' := 20) (dk_at dkX5_parse 12 rfl) rfl rfl ?_
    refine r_getf (pc' := 23) fl_RX5_10 (dk_at dkX5_parse 13 rfl) hB.obj rfl rfl ?_
    refine r_getf (pc' := 26) fl_RX5_99 (dk_at dkX5_parse 14 rfl) hN.obj rfl rfl ?_
    refine q_aload_n (pc' := 27) (dk_at dkX5_parse 15 rfl) rfl rfl ?_
    refine r_getf (pc' := 30) fl_RX5_27 (dk_at dkX5_parse 16 rfl) hB.obj rfl rfl ?_
    refine r_cVV (pc' := 33) (As := [vR (b + 88)]) (S := []) cv_RX5_139 (dk_at dkX5_parse 17 rfl) hK.obj rfl (k_Plan_takeFrom (d := 1) (by omega) hK hD (by omega)) (by omega) (Nat.zero_le _) (Nat.zero_le _) rfl (Nat.le_of_ble_eq_true rfl) rfl (Nat.le_of_ble_eq_true rfl) rfl (fun hh6 hphh6 => ?_)
    obtain ⟨hK, hGf⟩ := hphh6
    have hB := isBM.frm hB hGf (by omega)
    have hN := isState.frm hN hGf (by omega)
    have hQ := isShop.frm hQ hGf (by omega)
    have hZ := SvI.frm hZ hGf (by omega)
    have hD := isPlan.frm hD hGf (by omega)
    have hU := ShA.frm hU hGf (by omega)
    have hX := SxP.frm hX hGf (by omega)
    have hM := TmP.frm hM hGf (by omega)
    have hF := hF.tr hGf (by omega)
    refine q_aload_n (pc' := 34) (dk_at dkX5_parse 18 rfl) rfl rfl ?_
    refine r_getf (pc' := 37) fl_RX5_10 (dk_at dkX5_parse 19 rfl) hB.obj rfl rfl ?_
    refine r_getf (pc' := 40) fl_RX5_99 (dk_at dkX5_parse 20 rfl) hN.obj rfl rfl ?_
    refine r_getf (pc' := 43) fl_RX5_143 (dk_at dkX5_parse 21 rfl) hK.obj rfl rfl ?_
    refine r_iret rfl (dk_at dkX5_parse 22 rfl) ?_
    have ei : i = tl := hi2 (by omega)
    rw [ei] at hri
    refine ⟨o0, e0, _, hO0, hrd, Or.inr ⟨by omega, by rw [hri], ?_, hF⟩⟩
    rw [hri]
    exact ⟨hB, ⟨hN, hQ, hK⟩, hZ, ⟨_, _, _, _, hD, hok.1.2.2.1⟩, hM, hU, hX⟩
  · refine q_bipush (pc' := 12) (dk_at dkX5_parse 6 rfl) (by decide +kernel) rfl ?_
    refine q_iload_n (pc' := 13) (dk_at dkX5_parse 7 rfl) rfl rfl ?_
    refine q_isub (pc' := 14) (dk_at dkX5_parse 8 rfl) rfl ?_
    refine r_iret rfl (dk_at dkX5_parse 9 rfl) ?_
    exact ⟨o0, e0, _, hO0, hrd, Or.inl ⟨by omega, rfl, ⟨hB, ⟨hN, hQ, hK⟩, hZ, ⟨_, _, _, _, hD, hok.1.2.2.1⟩, hM, hU, hX⟩, hF⟩⟩

/-- a job of a plan at another place: what that costs, the plan (up to what lies behind its end) -/
theorem mvz_sqm {c m : Nat} {o : Nat → Int} (h : Sqm c m o) {i j : Nat} (hi : i < m) (hj : j < m) : Sqm c m (mvz o i j) := by
  obtain ⟨h1, h2, h3⟩ := h
  let f : Nat → Nat := fun k => if k = j then i else if (if k < j then k else k - 1) < i then (if k < j then k else k - 1) else (if k < j then k else k - 1) + 1
  have hf : ∀ k, mvz o i j k = o (f k) := fun k => by
    show (if k = j then o i else if (if k < j then k else k - 1) < i then o (if k < j then k else k - 1) else o ((if k < j then k else k - 1) + 1)) = o (f k)
    show _ = o (if k = j then i else if (if k < j then k else k - 1) < i then (if k < j then k else k - 1) else (if k < j then k else k - 1) + 1)
    by_cases z : k = j
    · rw [if_pos z, if_pos z]
    · rw [if_neg z, if_neg z]
      by_cases y : (if k < j then k else k - 1) < i
      · rw [if_pos y, if_pos y]
      · rw [if_neg y, if_neg y]
  have hb : ∀ k, k < m → f k < m := fun k hk => by
    show (if k = j then i else if (if k < j then k else k - 1) < i then (if k < j then k else k - 1) else (if k < j then k else k - 1) + 1) < m
    split
    · exact hi
    · split <;> split <;> omega
  have hin : ∀ k k', k < m → k' < m → f k = f k' → k = k' := fun k k' hk hk' e => by
    have e : (if k = j then i else if (if k < j then k else k - 1) < i then (if k < j then k else k - 1) else (if k < j then k else k - 1) + 1) = (if k' = j then i else if (if k' < j then k' else k' - 1) < i then (if k' < j then k' else k' - 1) else (if k' < j then k' else k' - 1) + 1) := e
    by_cases a1 : k = j <;> by_cases a2 : k' = j
    · omega
    · rw [if_pos a1, if_neg a2] at e
      by_cases b2 : k' < j
      · rw [if_pos b2] at e; split at e <;> omega
      · rw [if_neg b2] at e; split at e <;> omega
    · rw [if_neg a1, if_pos a2] at e
      by_cases b1 : k < j
      · rw [if_pos b1] at e; split at e <;> omega
      · rw [if_neg b1] at e; split at e <;> omega
    · rw [if_neg a1, if_neg a2] at e
      by_cases b1 : k < j <;> by_cases b2 : k' < j
      · rw [if_pos b1, if_pos b2] at e; split at e <;> split at e <;> omega
      · rw [if_pos b1, if_neg b2] at e; split at e <;> split at e <;> omega
      · rw [if_neg b1, if_pos b2] at e; split at e <;> split at e <;> omega
      · rw [if_neg b1, if_neg b2] at e; split at e <;> split at e <;> omega
  exact ⟨fun k => by rw [hf]; exact h1 _, fun k hk => by rw [hf]; exact h2 _ (hb k hk), fun k k' hk hk' e => by rw [hf, hf] at e; exact hin k k' hk hk' (h3 _ _ (hb k hk) (hb k' hk') e)⟩
/-- the plan of a sequence -/
def GrP (S : Shp) (o : Nat → Int) (m : Nat) (Q : PlS) : Prop := ∃ o' e', (∀ k, k < m → o' k = o k) ∧ (∀ j, 0 ≤ o' j ∧ o' j ≤ 7) ∧ Q = (m, grB (fmG S o') m, o', grE (fmG S o') e' m)
theorem Sqm.cong {c m : Nat} {o o' : Nat → Int} (h : Sqm c m o) (hO : ∀ k, k < m → o' k = o k) (hr : ∀ j, 0 ≤ o' j ∧ o' j ≤ 7) : Sqm c m o' :=
  ⟨hr, fun k hk => by rw [hO k hk]; exact h.2.1 k hk, fun k k' hk hk' e => h.2.2 k k' hk hk' (by rw [← hO k hk, ← hO k' hk']; exact e)⟩
theorem GrP.ok {S : Shp} {o : Nat → Int} {m : Nat} {Q : PlS} (hm : m ≤ 8) (h : Sqm S.cnt m o) (hQ : GrP S o m Q) : PlOk S.cnt Q ∧ cvS S Q = sqM S o m := by
  obtain ⟨o', e', h1, h2, rfl⟩ := hQ
  have h3 := h.cong h1 h2
  exact ⟨h3.pok hm (fmG S o') e', sqM_eq hm h3 h1⟩
theorem sqM_r {S : Shp} (hk : Sok S) {o : Nat → Int} {m : Nat} (hm : m ≤ 8) (h : Sqm S.cnt m o) : -1000000005000 ≤ sqM S o m ∧ sqM S o m ≤ 1000000000000 := costP_r hk (h.pok hm _ _)
/-- the facts of the object that a step of improvement needs and keeps -/
def ImI (n : Nat) (h : PH) (b : Nat) (S : Shp) (P : PlS) (kn bs sv tl : Int) (tx : Nat → Int) : Prop := isBM n h b sv tx tl ∧ isState n h (b + 1) kn bs ∧ isShp n h (b + 2) S ∧ isPlS n h (b + 15) P ∧ DrP n h (b + 88) ∧ TmP n h (b + 91)
/-- what is written: the kept plan, the draft, the timing -/
def FrM (h h' : PH) (b : Nat) : Prop := ∀ k, ¬ (b + 15 ≤ k ∧ k < b + 18) → ¬ (b + 88 ≤ k ∧ k < b + 105) → h' k = h k
theorem FrM.rf {h : PH} {b : Nat} : FrM h h b := fun _ _ _ => rfl
theorem FrM.tr {h h1 h2 : PH} {b : Nat} (H : FrM h h1 b) (G : FrM h1 h2 b) : FrM h h2 b := fun k a c => by rw [G k a c, H k a c]
theorem FrM.split {h h' : PH} {b : Nat} (H : FrM h h' b) : ∃ h1, Fr h h1 (b + 88) (b + 105) ∧ Fr h1 h' (b + 15) (b + 18) := by
  refine ⟨fun k => if b + 88 ≤ k ∧ k < b + 105 then h' k else h k, fun k hk => if_neg (by omega), fun k hk => ?_⟩
  dsimp only
  by_cases z : b + 88 ≤ k ∧ k < b + 105
  · rw [if_pos z]
  · rw [if_neg z]; exact H k (by omega) z
set_option maxHeartbeats 4000000 in
set_option maxRecDepth 100000 in
theorem k_BM_tryMove {d n : Nat} {h : PH} {b : Nat} {S : Shp} {P : PlS} {kn bs sv tl : Int} {tx : Nat → Int} {i j : Nat} {p : Int} (hd : 4 ≤ d) (hk1 : Sok S) (hkp : PlOk S.cnt P) (hi : i < P.sz) (hj : j < P.sz) (hp : -1000000005000 ≤ p ∧ p ≤ 1000000000000) (hI : ImI n h b S P kn bs sv tl tx) : CtrI mX5_tryMove d [vR b, vI (i : Int), vI (j : Int), vJ p] n h (fun x h' => ∃ Q, ((x = 1 ∧ sqM S (mvz P.od i j) P.sz < p ∧ GrP S (mvz P.od i j) P.sz Q) ∨ (x = 0 ∧ ¬ sqM S (mvz P.od i j) P.sz < p ∧ Q = P)) ∧ ImI n h' b S Q kn bs sv tl tx ∧ FrM h h' b) := by
  obtain ⟨hB, hN, hQ, hK, ⟨sz0, bc0, o0, e0, hD, hO0⟩, ⟨BV0, JV0, tot0, fre0, hM⟩⟩ := hI
  have hkp : Pok S.cnt P.od P.en P.bc P.sz := hkp
  have hp8 : P.sz ≤ 8 := hkp.1
  have hsm := mvz_sqm hkp.sqm hi hj
  have hF : Fr h h (b + 88) (b + 105) := Fr.rf
  refine q_beginI (L := [some (vR b), some (vI (i : Int)), some (vI (j : Int)), some (vJ p), none]) rfl ?_
  refine q_aload_n (pc' := 1) (dk_at dkX5_tryMove 0 rfl) rfl rfl ?_
  refine r_getf (pc' := 4) fl_RX5_27 (dk_at dkX5_tryMove 1 rfl) hB.obj rfl rfl ?_
  refine q_aload_n (pc' := 5) (dk_at dkX5_tryMove 2 rfl) rfl rfl ?_
  refine r_getf (pc' := 8) fl_RX5_10 (dk_at dkX5_tryMove 3 rfl) hB.obj rfl rfl ?_
  refine r_getf (pc' := 11) fl_RX5_99 (dk_at dkX5_tryMove 4 rfl) hN.obj rfl rfl ?_
  refine q_iload_n (pc' := 12) (dk_at dkX5_tryMove 5 rfl) rfl rfl ?_
  refine q_iload_n (pc' := 13) (dk_at dkX5_tryMove 6 rfl) rfl rfl ?_
  refine r_cVV (pc' := 16) (As := [vR (b + 15), vI (i : Int), vI (j : Int)]) (S := []) cv_RX5_281 (dk_at dkX5_tryMove 7 rfl) hD.obj rfl (k_Plan_takeMoved (d := 1) (fr := i) (to := j) (by omega) hO0 hkp.2.2.1 (by omega) (by omega) (by omega) (by omega) hD hK) (by omega) (Nat.zero_le _) (Nat.zero_le _) rfl (Nat.le_of_ble_eq_true rfl) rfl (Nat.le_of_ble_eq_true rfl) rfl (fun hh2 hphh2 => ?_)
  obtain ⟨o1, e1, hD, ho1, hO1, hGf⟩ := hphh2
  have hB := isBM.frm hB hGf (by omega)
  have hN := isState.frm hN hGf (by omega)
  have hQ := isShop.frm hQ hGf (by omega)
  have hK := isPlan.frm hK hGf (by omega)
  have hM := isTiming.frm hM hGf (by omega)
  have hF := hF.tr hGf (by omega)
  have hsq := (mvz_sqm hkp.sqm (i := i) (j := j) (by omega) (by omega)).cong ho1 hO1
  refine q_aload_n (pc' := 17) (dk_at dkX5_tryMove 8 rfl) rfl rfl ?_
  refine r_getf (pc' := 20) fl_RX5_27 (dk_at dkX5_tryMove 9 rfl) hB.obj rfl rfl ?_
  refine q_aload_n (pc' := 21) (dk_at dkX5_tryMove 10 rfl) rfl rfl ?_
  refine r_getf (pc' := 24) fl_RX5_10 (dk_at dkX5_tryMove 11 rfl) hB.obj rfl rfl ?_
  refine r_getf (pc' := 27) fl_RX5_63 (dk_at dkX5_tryMove 12 rfl) hN.obj rfl rfl ?_
  refine r_cVV (pc' := 30) (As := [vR (b + 2)]) (S := []) cv_RX5_266 (dk_at dkX5_tryMove 13 rfl) hD.obj rfl (k_Plan_groupByFamily (d := 0) (size := P.sz) hk1.v hO1 hp8 (by omega) hQ hD) (by omega) (Nat.zero_le _) (Nat.zero_le _) rfl (Nat.le_of_ble_eq_true rfl) rfl (Nat.le_of_ble_eq_true rfl) rfl (fun hh4 hphh4 => ?_)
  obtain ⟨hD, hGf⟩ := hphh4
  have hB := isBM.frm hB hGf (by omega)
  have hN := isState.frm hN hGf (by omega)
  have hQ := isShop.frm hQ hGf (by omega)
  have hK := isPlan.frm hK hGf (by omega)
  have hM := isTiming.frm hM hGf (by omega)
  have hF := hF.tr hGf (by omega)
  have hpk := hsq.pok hp8 (fmG S o1) e1
  refine q_aload_n (pc' := 31) (dk_at dkX5_tryMove 14 rfl) rfl rfl ?_
  refine r_getf (pc' := 34) fl_RX5_34 (dk_at dkX5_tryMove 15 rfl) hB.obj rfl rfl ?_
  refine q_aload_n (pc' := 35) (dk_at dkX5_tryMove 16 rfl) rfl rfl ?_
  refine r_getf (pc' := 38) fl_RX5_10 (dk_at dkX5_tryMove 17 rfl) hB.obj rfl rfl ?_
  refine r_getf (pc' := 41) fl_RX5_63 (dk_at dkX5_tryMove 18 rfl) hN.obj rfl rfl ?_
  refine q_aload_n (pc' := 42) (dk_at dkX5_tryMove 19 rfl) rfl rfl ?_
  refine r_getf (pc' := 45) fl_RX5_27 (dk_at dkX5_tryMove 20 rfl) hB.obj rfl rfl ?_
  refine r_cVJ (pc' := 48) (As := [vR (b + 2), vR (b + 88)]) (S := []) cv_RX5_171 (dk_at dkX5_tryMove 21 rfl) hM.obj rfl (k_Timing_follow (d := 3) (by omega) hk1 hpk (by omega) (by omega) hQ hD hM) (by omega) (Nat.zero_le _) (Nat.zero_le _) rfl (Nat.le_of_ble_eq_true rfl) rfl (Nat.le_of_ble_eq_true rfl) rfl (fun xx5 hh6 hphh6 => ?_)
  obtain ⟨hx, BV, JV, tot, hM, hTI, htt, hGf⟩ := hphh6
  have hB := isBM.frm hB hGf (by omega)
  have hN := isState.frm hN hGf (by omega)
  have hQ := isShop.frm hQ hGf (by omega)
  have hK := isPlan.frm hK hGf (by omega)
  have hD := isPlan.frm hD hGf (by omega)
  have hF := hF.tr hGf (by omega)
  rw [sqM_eq hp8 hsq ho1] at hx
  have hxr := sqM_r hk1 hp8 hsm
  refine q_lload_n (pc' := 49) (dk_at dkX5_tryMove 22 rfl) rfl rfl ?_
  refine q_lcmp (pc' := 50) (dk_at dkX5_tryMove 23 rfl) (by omega) (by omega) rfl ?_
  refine q_if_lt (tgt := 55) (pc' := 53) (dk_at dkX5_tryMove 24 rfl) rfl rfl (cmpz_IR _ _) (fun c50 => ?_) (fun c50 => ?_)
  · rw [cmpz_lt] at c50
    refine q_aload_n (pc' := 56) (dk_at dkX5_tryMove 27 rfl) rfl rfl ?_
    refine r_getf (pc' := 59) fl_RX5_10 (dk_at dkX5_tryMove 28 rfl) hB.obj rfl rfl ?_
    refine r_getf (pc' := 62) fl_RX5_99 (dk_at dkX5_tryMove 29 rfl) hN.obj rfl rfl ?_
    refine q_aload_n (pc' := 63) (dk_at dkX5_tryMove 30 rfl) rfl rfl ?_
    refine r_getf (pc' := 66) fl_RX5_27 (dk_at dkX5_tryMove 31 rfl) hB.obj rfl rfl ?_
    refine r_cVV (pc' := 69) (As := [vR (b + 88)]) (S := []) cv_RX5_139 (dk_at dkX5_tryMove 32 rfl) hK.obj rfl (k_Plan_takeFrom (d := 1) (by omega) hK hD (by omega)) (by omega) (Nat.zero_le _) (Nat.zero_le _) rfl (Nat.le_of_ble_eq_true rfl) rfl (Nat.le_of_ble_eq_true rfl) rfl (fun hh8 hphh8 => ?_)
    obtain ⟨hK, hGk⟩ := hphh8
    have hB := isBM.frm hB hGk (by omega)
    have hN := isState.frm hN hGk (by omega)
    have hQ := isShop.frm hQ hGk (by omega)
    have hD := isPlan.frm hD hGk (by omega)
    have hM := isTiming.frm hM hGk (by omega)
    refine q_iconst (pc' := 70) (dk_at dkX5_tryMove 33 rfl) rfl ?_
    refine r_zret rfl (by omega) (dk_at dkX5_tryMove 34 rfl) ?_
    refine ⟨(P.sz, grB (fmG S o1) P.sz, o1, grE (fmG S o1) e1 P.sz), Or.inl ⟨rfl, by omega, ⟨o1, e1, ho1, hO1, rfl⟩⟩, ⟨hB, hN, hQ, hK, ⟨_, _, _, _, hD, hsq.1⟩, ⟨_, _, _, _, hM⟩⟩, fun k a c => ?_⟩
    rw [hGk k (by omega), hF k (by omega)]
  · rw [cmpz_lt] at c50
    refine q_iconst (pc' := 54) (dk_at dkX5_tryMove 25 rfl) rfl ?_
    refine r_zret rfl (by omega) (dk_at dkX5_tryMove 26 rfl) ?_
    exact ⟨P, Or.inr ⟨rfl, by omega, rfl⟩, ⟨hB, hN, hQ, hK, ⟨_, _, _, _, hD, hsq.1⟩, ⟨_, _, _, _, hM⟩⟩, fun k a c => hF k (by omega)⟩

def imp (S : Shp) (P : PlS) (i j : Nat) : Prop := sqM S (mvz P.od i j) P.sz < cvS S P
/-- a step of improvement: Q behind P (1), or none is possible (0) -/
def StepR (S : Shp) (P : PlS) (x : Int) (Q : PlS) : Prop :=
  (x = 1 ∧ ∃ i, i + 1 < P.sz ∧ (∀ i', i' < i → ¬ imp S P i' (i' + 1)) ∧ imp S P i (i + 1) ∧ GrP S (mvz P.od i (i + 1)) P.sz Q) ∨
  (x = 1 ∧ (∀ i', i' + 1 < P.sz → ¬ imp S P i' (i' + 1)) ∧ ∃ i j, i < P.sz ∧ j < P.sz ∧ j ≠ i ∧ (∀ i' j', i' < i → j' < P.sz → j' ≠ i' → ¬ imp S P i' j') ∧ (∀ j', j' < j → j' ≠ i → ¬ imp S P i j') ∧ imp S P i j ∧ GrP S (mvz P.od i j) P.sz Q) ∨
  (x = 0 ∧ Q = P ∧ (∀ i', i' + 1 < P.sz → ¬ imp S P i' (i' + 1)) ∧ ∀ i' j', i' < P.sz → j' < P.sz → j' ≠ i' → ¬ imp S P i' j')
theorem YNr {x : Int} {p q : Prop} {Q : PlS} {R : PlS → Prop} {P : PlS} (h : (x = 1 ∧ p ∧ R Q) ∨ (x = 0 ∧ ¬ p ∧ Q = P)) : x = 0 ∨ x = 1 := by rcases h with h | h <;> omega
set_option maxHeartbeats 4000000 in
set_option maxRecDepth 100000 in
theorem l_step3 {d n : Nat} {h : PH} {b : Nat} {S : Shp} {P : PlS} {kn bs sv tl : Int} {tx : Nat → Int} (hd : 5 ≤ d) (hk1 : Sok S) (hkp : PlOk S.cnt P) (hp8 : P.sz ≤ 8) (hcr : -1000000005000 ≤ cvS S P ∧ cvS S P ≤ 1000000000000) (hA : ∀ i', i' + 1 < P.sz → ¬ imp S P i' (i' + 1)) {i : Nat} (hi : i < P.sz) (hBi : ∀ i' j', i' < i → j' < P.sz → j' ≠ i' → ¬ imp S P i' j') (hex : ∀ (h1 : PH) (j : Nat), (∀ j', j' < P.sz → j' ≠ i → ¬ imp S P i j') → ImI n h1 b S P kn bs sv tl tx → FrM h h1 b → QN mX5_makeStep d (FI n (fun x h' => ∃ Q, StepR S P x Q ∧ ImI n h' b S Q kn bs sv tl tx ∧ FrM h h' b)) 119 [some (vR b), some (vJ (cvS S P)), none, some (vI (i : Int)), some (vI (j : Int))] [] n h1) : ∀ (c : Nat) (j : Nat) (h1 : PH), (j + c = P.sz) → (∀ j', j' < j → j' ≠ i → ¬ imp S P i j') → (ImI n h1 b S P kn bs sv tl tx) → (FrM h h1 b) → QN mX5_makeStep d (FI n (fun x h' => ∃ Q, StepR S P x Q ∧ ImI n h' b S Q kn bs sv tl tx ∧ FrM h h' b)) 79 [some (vR b), some (vJ (cvS S P)), none, some (vI (i : Int)), some (vI (j : Int))] [] n h1 := by
  intro c
  induction c with
  | zero =>
    intro j h1 hc hBj hI hF
    obtain ⟨hB, hN, hQ, hK, hDM⟩ := id hI
    refine q_iload (pc' := 81) (dk_at dkX5_makeStep 42 rfl) rfl rfl ?_
    refine q_aload_n (pc' := 82) (dk_at dkX5_makeStep 43 rfl) rfl rfl ?_
    refine r_getf (pc' := 85) fl_RX5_10 (dk_at dkX5_makeStep 44 rfl) hB.obj rfl rfl ?_
    refine r_getf (pc' := 88) fl_RX5_99 (dk_at dkX5_makeStep 45 rfl) hN.obj rfl rfl ?_
    refine r_getf (pc' := 91) fl_RX5_252 (dk_at dkX5_makeStep 46 rfl) hK.obj rfl rfl ?_
    refine q_icmp_ge (tgt := 119) (pc' := 94) (dk_at dkX5_makeStep 47 rfl) rfl rfl (by omega) (by omega) (fun c91 => ?_) (fun c91 => ?_)
    · first | (exfalso; omega; done) | exact hex h1 j (fun j' hj' hn => hBj j' (by omega) hn) hI hF
    · exfalso
      omega
  | succ c ih =>
    intro j h1 hc hBj hI hF
    obtain ⟨hB, hN, hQ, hK, hDM⟩ := id hI
    refine q_iload (pc' := 81) (dk_at dkX5_makeStep 42 rfl) rfl rfl ?_
    refine q_aload_n (pc' := 82) (dk_at dkX5_makeStep 43 rfl) rfl rfl ?_
    refine r_getf (pc' := 85) fl_RX5_10 (dk_at dkX5_makeStep 44 rfl) hB.obj rfl rfl ?_
    refine r_getf (pc' := 88) fl_RX5_99 (dk_at dkX5_makeStep 45 rfl) hN.obj rfl rfl ?_
    refine r_getf (pc' := 91) fl_RX5_252 (dk_at dkX5_makeStep 46 rfl) hK.obj rfl rfl ?_
    refine q_icmp_ge (tgt := 119) (pc' := 94) (dk_at dkX5_makeStep 47 rfl) rfl rfl (by omega) (by omega) (fun c91 => ?_) (fun c91 => ?_)
    · first | (exfalso; omega; done) | exact hex h1 j (fun j' hj' hn => hBj j' (by omega) hn) hI hF
    · refine q_iload (pc' := 96) (dk_at dkX5_makeStep 48 rfl) rfl rfl ?_
      refine q_iload_n (pc' := 97) (dk_at dkX5_makeStep 49 rfl) rfl rfl ?_
      refine q_icmp_eq (tgt := 113) (pc' := 100) (dk_at dkX5_makeStep 50 rfl) rfl rfl (by omega) (by omega) (fun c97 => ?_) (fun c97 => ?_)
      · refine q_iinc (pc' := 116) (L' := [some (vR b), some (vJ (cvS S P)), none, some (vI (i : Int)), some (vI ((j : Int) + 1))]) (dk_at dkX5_makeStep 59 rfl) (by decide) rfl rfl rfl ?_
        rw [show ((j : Int) + 1) = ((j + 1 : Nat) : Int) by omega]
        refine q_goto (tgt := 79) (dk_at dkX5_makeStep 60 rfl) rfl ?_
        refine ih (j + 1) h1 (by omega) (fun j' hj' hn => ?_) hI hF
        exact hBj j' (by omega) hn
      · refine q_aload_n (pc' := 101) (dk_at dkX5_makeStep 51 rfl) rfl rfl ?_
        refine q_iload_n (pc' := 102) (dk_at dkX5_makeStep 52 rfl) rfl rfl ?_
        refine q_iload (pc' := 104) (dk_at dkX5_makeStep 53 rfl) rfl rfl ?_
        refine q_lload_n (pc' := 105) (dk_at dkX5_makeStep 54 rfl) rfl rfl ?_
        refine r_cVI (pc' := 108) (As := [vI (i : Int), vI (j : Int), vJ (cvS S P)]) (S := []) cv_RX5_277 (dk_at dkX5_makeStep 55 rfl) hB.obj rfl (k_BM_tryMove (d := 4) (i := i) (j := j) (by omega) hk1 hkp (by omega) (by omega) hcr hI) (by omega) (Nat.zero_le _) (Nat.zero_le _) rfl (Nat.le_of_ble_eq_true rfl) rfl (Nat.le_of_ble_eq_true rfl) rfl (fun xx1 hh2 hphh2 => ?_)
        obtain ⟨Q, hor, hI, hG⟩ := hphh2
        have hF := hF.tr hG
        have hxr : xx1 = 0 ∨ xx1 = 1 := by rcases hor with z | z <;> omega
        obtain ⟨hB, hN, hQ, hK, hDM⟩ := id hI
        refine q_if_eq (tgt := 113) (pc' := 111) (dk_at dkX5_makeStep 56 rfl) rfl rfl (by omega) (fun c108 => ?_) (fun c108 => ?_)
        · refine q_iinc (pc' := 116) (L' := [some (vR b), some (vJ (cvS S P)), none, some (vI (i : Int)), some (vI ((j : Int) + 1))]) (dk_at dkX5_makeStep 59 rfl) (by decide) rfl rfl rfl ?_
          rw [show ((j : Int) + 1) = ((j + 1 : Nat) : Int) by omega]
          refine q_goto (tgt := 79) (dk_at dkX5_makeStep 60 rfl) rfl ?_
          have e0 : Q = P := by rcases hor with z | z; omega; exact z.2.2
          rw [e0] at hI
          refine ih (j + 1) _ (by omega) (fun j' hj' hn => ?_) hI hF
          by_cases z : j' = j
          · rw [z]; rcases hor with y | y
            · omega
            · exact y.2.1
          · exact hBj j' (by omega) hn
        · refine q_iconst (pc' := 112) (dk_at dkX5_makeStep 57 rfl) rfl ?_
          refine r_zret rfl (by omega) (dk_at dkX5_makeStep 58 rfl) ?_
          refine ⟨Q, Or.inr (Or.inl ⟨rfl, hA, i, j, by omega, by omega, by omega, hBi, hBj, ?_, ?_⟩), hI, hF⟩
          · rcases hor with z | z
            · exact z.2.1
            · omega
          · rcases hor with z | z
            · exact z.2.2
            · omega

set_option maxHeartbeats 4000000 in
set_option maxRecDepth 100000 in
theorem l_step2 {d n : Nat} {h : PH} {b : Nat} {S : Shp} {P : PlS} {kn bs sv tl : Int} {tx : Nat → Int} (hd : 5 ≤ d) (hk1 : Sok S) (hkp : PlOk S.cnt P) (hp8 : P.sz ≤ 8) (hcr : -1000000005000 ≤ cvS S P ∧ cvS S P ≤ 1000000000000) (hA : ∀ i', i' + 1 < P.sz → ¬ imp S P i' (i' + 1)) : ∀ (c : Nat) (i : Nat) (h1 : PH) (x4 : Option PV), (i + c = P.sz) → (∀ i' j', i' < i → j' < P.sz → j' ≠ i' → ¬ imp S P i' j') → (ImI n h1 b S P kn bs sv tl tx) → (FrM h h1 b) → QN mX5_makeStep d (FI n (fun x h' => ∃ Q, StepR S P x Q ∧ ImI n h' b S Q kn bs sv tl tx ∧ FrM h h' b)) 62 [some (vR b), some (vJ (cvS S P)), none, some (vI (i : Int)), x4] [] n h1 := by
  intro c
  induction c with
  | zero =>
    intro i h1 x4 hc hBi hI hF
    obtain ⟨hB, hN, hQ, hK, hDM⟩ := id hI
    refine q_iload_n (pc' := 63) (dk_at dkX5_makeStep 34 rfl) rfl rfl ?_
    refine q_aload_n (pc' := 64) (dk_at dkX5_makeStep 35 rfl) rfl rfl ?_
    refine r_getf (pc' := 67) fl_RX5_10 (dk_at dkX5_makeStep 36 rfl) hB.obj rfl rfl ?_
    refine r_getf (pc' := 70) fl_RX5_99 (dk_at dkX5_makeStep 37 rfl) hN.obj rfl rfl ?_
    refine r_getf (pc' := 73) fl_RX5_252 (dk_at dkX5_makeStep 38 rfl) hK.obj rfl rfl ?_
    refine q_icmp_ge (tgt := 125) (pc' := 76) (dk_at dkX5_makeStep 39 rfl) rfl rfl (by omega) (by omega) (fun c73 => ?_) (fun c73 => ?_)
    · refine q_iconst (pc' := 126) (dk_at dkX5_makeStep 63 rfl) rfl ?_
      refine r_zret rfl (by omega) (dk_at dkX5_makeStep 64 rfl) ?_
      exact ⟨P, Or.inr (Or.inr ⟨rfl, rfl, hA, fun i' j' a b c => hBi i' j' (by omega) b c⟩), hI, hF⟩
    · exfalso
      omega
  | succ c ih =>
    intro i h1 x4 hc hBi hI hF
    obtain ⟨hB, hN, hQ, hK, hDM⟩ := id hI
    refine q_iload_n (pc' := 63) (dk_at dkX5_makeStep 34 rfl) rfl rfl ?_
    refine q_aload_n (pc' := 64) (dk_at dkX5_makeStep 35 rfl) rfl rfl ?_
    refine r_getf (pc' := 67) fl_RX5_10 (dk_at dkX5_makeStep 36 rfl) hB.obj rfl rfl ?_
    refine r_getf (pc' := 70) fl_RX5_99 (dk_at dkX5_makeStep 37 rfl) hN.obj rfl rfl ?_
    refine r_getf (pc' := 73) fl_RX5_252 (dk_at dkX5_makeStep 38 rfl) hK.obj rfl rfl ?_
    refine q_icmp_ge (tgt := 125) (pc' := 76) (dk_at dkX5_makeStep 39 rfl) rfl rfl (by omega) (by omega) (fun c73 => ?_) (fun c73 => ?_)
    · refine q_iconst (pc' := 126) (dk_at dkX5_makeStep 63 rfl) rfl ?_
      refine r_zret rfl (by omega) (dk_at dkX5_makeStep 64 rfl) ?_
      exact ⟨P, Or.inr (Or.inr ⟨rfl, rfl, hA, fun i' j' a b c => hBi i' j' (by omega) b c⟩), hI, hF⟩
    · refine q_iconst (pc' := 77) (dk_at dkX5_makeStep 40 rfl) rfl ?_
      refine q_istore (pc' := 79) (L' := [some (vR b), some (vJ (cvS S P)), none, some (vI (i : Int)), some (vI 0)]) (dk_at dkX5_makeStep 41 rfl) (by decide) rfl rfl ?_
      refine l_step3 (h := h) hd hk1 hkp hp8 hcr hA (i := i) (by omega) hBi ?_ P.sz 0 h1 (by omega) (fun j' hj' => absurd hj' (Nat.not_lt_zero _)) hI hF
      intro h2 j hBj hI hF
      refine q_iinc (pc' := 122) (L' := [some (vR b), some (vJ (cvS S P)), none, some (vI ((i : Int) + 1)), some (vI (j : Int))]) (dk_at dkX5_makeStep 61 rfl) (by decide) rfl rfl rfl ?_
      rw [show ((i : Int) + 1) = ((i + 1 : Nat) : Int) by omega]
      refine q_goto (tgt := 62) (dk_at dkX5_makeStep 62 rfl) rfl ?_
      refine ih (i + 1) _ _ (by omega) (fun i' j' hi' hj' hn => ?_) hI hF
      by_cases z : i' = i
      · rw [z] at hn ⊢; exact hBj j' hj' hn
      · exact hBi i' j' (by omega) hj' hn

set_option maxHeartbeats 4000000 in
set_option maxRecDepth 100000 in
theorem l_step1 {d n : Nat} {h : PH} {b : Nat} {S : Shp} {P : PlS} {kn bs sv tl : Int} {tx : Nat → Int} (hd : 5 ≤ d) (hk1 : Sok S) (hkp : PlOk S.cnt P) (hp8 : P.sz ≤ 8) (hcr : -1000000005000 ≤ cvS S P ∧ cvS S P ≤ 1000000000000) : ∀ (c : Nat) (i : Nat) (h1 : PH), (i + c = P.sz) → (∀ i', i' < i → ¬ imp S P i' (i' + 1)) → (ImI n h1 b S P kn bs sv tl tx) → (FrM h h1 b) → QN mX5_makeStep d (FI n (fun x h' => ∃ Q, StepR S P x Q ∧ ImI n h' b S Q kn bs sv tl tx ∧ FrM h h' b)) 24 [some (vR b), some (vJ (cvS S P)), none, some (vI (i : Int)), none] [] n h1 := by
  intro c
  induction c with
  | zero =>
    intro i h1 hc hA hI hF
    obtain ⟨hB, hN, hQ, hK, hDM⟩ := id hI
    refine q_iload_n (pc' := 25) (dk_at dkX5_makeStep 12 rfl) rfl rfl ?_
    refine q_iconst (pc' := 26) (dk_at dkX5_makeStep 13 rfl) rfl ?_
    refine q_iadd (pc' := 27) (dk_at dkX5_makeStep 14 rfl) rfl ?_
    refine q_aload_n (pc' := 28) (dk_at dkX5_makeStep 15 rfl) rfl rfl ?_
    refine r_getf (pc' := 31) fl_RX5_10 (dk_at dkX5_makeStep 16 rfl) hB.obj rfl rfl ?_
    refine r_getf (pc' := 34) fl_RX5_99 (dk_at dkX5_makeStep 17 rfl) hN.obj rfl rfl ?_
    refine r_getf (pc' := 37) fl_RX5_252 (dk_at dkX5_makeStep 18 rfl) hK.obj rfl rfl ?_
    refine q_icmp_ge (tgt := 60) (pc' := 40) (dk_at dkX5_makeStep 19 rfl) rfl rfl (by omega) (by omega) (fun c37 => ?_) (fun c37 => ?_)
    · refine q_iconst (pc' := 61) (dk_at dkX5_makeStep 32 rfl) rfl ?_
      refine q_istore_n (pc' := 62) (L' := [some (vR b), some (vJ (cvS S P)), none, some (vI 0), none]) (dk_at dkX5_makeStep 33 rfl) (by decide) rfl rfl ?_
      exact l_step2 (h := h) hd hk1 hkp hp8 hcr (fun i' hi' => hA i' (by omega)) P.sz 0 h1 none (by omega) (fun i' j' hi' => absurd hi' (Nat.not_lt_zero _)) hI hF
    · exfalso
      omega
  | succ c ih =>
    intro i h1 hc hA hI hF
    obtain ⟨hB, hN, hQ, hK, hDM⟩ := id hI
    refine q_iload_n (pc' := 25) (dk_at dkX5_makeStep 12 rfl) rfl rfl ?_
    refine q_iconst (pc' := 26) (dk_at dkX5_makeStep 13 rfl) rfl ?_
    refine q_iadd (pc' := 27) (dk_at dkX5_makeStep 14 rfl) rfl ?_
    refine q_aload_n (pc' := 28) (dk_at dkX5_makeStep 15 rfl) rfl rfl ?_
    refine r_getf (pc' := 31) fl_RX5_10 (dk_at dkX5_makeStep 16 rfl) hB.obj rfl rfl ?_
    refine r_getf (pc' := 34) fl_RX5_99 (dk_at dkX5_makeStep 17 rfl) hN.obj rfl rfl ?_
    refine r_getf (pc' := 37) fl_RX5_252 (dk_at dkX5_makeStep 18 rfl) hK.obj rfl rfl ?_
    refine q_icmp_ge (tgt := 60) (pc' := 40) (dk_at dkX5_makeStep 19 rfl) rfl rfl (by omega) (by omega) (fun c37 => ?_) (fun c37 => ?_)
    · refine q_iconst (pc' := 61) (dk_at dkX5_makeStep 32 rfl) rfl ?_
      refine q_istore_n (pc' := 62) (L' := [some (vR b), some (vJ (cvS S P)), none, some (vI 0), none]) (dk_at dkX5_makeStep 33 rfl) (by decide) rfl rfl ?_
      exact l_step2 (h := h) hd hk1 hkp hp8 hcr (fun i' hi' => hA i' (by omega)) P.sz 0 h1 none (by omega) (fun i' j' hi' => absurd hi' (Nat.not_lt_zero _)) hI hF
    · refine q_aload_n (pc' := 41) (dk_at dkX5_makeStep 20 rfl) rfl rfl ?_
      refine q_iload_n (pc' := 42) (dk_at dkX5_makeStep 21 rfl) rfl rfl ?_
      refine q_iload_n (pc' := 43) (dk_at dkX5_makeStep 22 rfl) rfl rfl ?_
      refine q_iconst (pc' := 44) (dk_at dkX5_makeStep 23 rfl) rfl ?_
      refine q_iadd (pc' := 45) (dk_at dkX5_makeStep 24 rfl) rfl ?_
      refine q_lload_n (pc' := 46) (dk_at dkX5_makeStep 25 rfl) rfl rfl ?_
      refine r_cVI (pc' := 49) (As := [vI (i : Int), vI ((i : Int) + 1), vJ (cvS S P)]) (S := []) cv_RX5_277 (dk_at dkX5_makeStep 26 rfl) hB.obj rfl (k_BM_tryMove (d := 4) (i := i) (j := (i + 1)) (by omega) hk1 hkp (by omega) (by omega) hcr hI) (by omega) (Nat.zero_le _) (Nat.zero_le _) rfl (Nat.le_of_ble_eq_true rfl) rfl (Nat.le_of_ble_eq_true rfl) rfl (fun xx1 hh2 hphh2 => ?_)
      obtain ⟨Q, hor, hI, hG⟩ := hphh2
      have hF := hF.tr hG
      have hxr : xx1 = 0 ∨ xx1 = 1 := by rcases hor with z | z <;> omega
      obtain ⟨hB, hN, hQ, hK, hDM⟩ := id hI
      refine q_if_eq (tgt := 54) (pc' := 52) (dk_at dkX5_makeStep 27 rfl) rfl rfl (by omega) (fun c49 => ?_) (fun c49 => ?_)
      · refine q_iinc (pc' := 57) (L' := [some (vR b), some (vJ (cvS S P)), none, some (vI ((i : Int) + 1)), none]) (dk_at dkX5_makeStep 30 rfl) (by decide) rfl rfl rfl ?_
        rw [show ((i : Int) + 1) = ((i + 1 : Nat) : Int) by omega]
        refine q_goto (tgt := 24) (dk_at dkX5_makeStep 31 rfl) rfl ?_
        have e0 : Q = P := by rcases hor with z | z; omega; exact z.2.2
        rw [e0] at hI
        refine ih (i + 1) _ (by omega) (fun i' hi' => ?_) hI hF
        by_cases z : i' = i
        · rw [z]; rcases hor with y | y
          · omega
          · exact y.2.1
        · exact hA i' (by omega)
      · refine q_iconst (pc' := 53) (dk_at dkX5_makeStep 28 rfl) rfl ?_
        refine r_zret rfl (by omega) (dk_at dkX5_makeStep 29 rfl) ?_
        refine ⟨Q, Or.inl ⟨rfl, i, by omega, hA, ?_, ?_⟩, hI, hF⟩
        · rcases hor with z | z
          · exact z.2.1
          · omega
        · rcases hor with z | z
          · exact z.2.2
          · omega

set_option maxHeartbeats 4000000 in
set_option maxRecDepth 100000 in
theorem k_BM_makeStep {d n : Nat} {h : PH} {b : Nat} {S : Shp} {P : PlS} {kn bs sv tl : Int} {tx : Nat → Int} (hd : 5 ≤ d) (hk1 : Sok S) (hkp : PlOk S.cnt P) (hI : ImI n h b S P kn bs sv tl tx) : CtrI mX5_makeStep d [vR b] n h (fun x h' => ∃ Q, StepR S P x Q ∧ ImI n h' b S Q kn bs sv tl tx ∧ FrM h h' b) := by
  obtain ⟨hB, hN, hQ, hK, hD, ⟨BV0, JV0, tot0, fre0, hM⟩⟩ := hI
  have hkp : Pok S.cnt P.od P.en P.bc P.sz := hkp
  have hcr : -1000000005000 ≤ cvS S P ∧ cvS S P ≤ 1000000000000 := costP_r hk1 hkp
  have hF : Fr h h (b + 91) (b + 105) := Fr.rf
  refine q_beginI (L := [some (vR b), none, none, none, none]) rfl ?_
  refine q_aload_n (pc' := 1) (dk_at dkX5_makeStep 0 rfl) rfl rfl ?_
  refine r_getf (pc' := 4) fl_RX5_34 (dk_at dkX5_makeStep 1 rfl) hB.obj rfl rfl ?_
  refine q_aload_n (pc' := 5) (dk_at dkX5_makeStep 2 rfl) rfl rfl ?_
  refine r_getf (pc' := 8) fl_RX5_10 (dk_at dkX5_makeStep 3 rfl) hB.obj rfl rfl ?_
  refine r_getf (pc' := 11) fl_RX5_63 (dk_at dkX5_makeStep 4 rfl) hN.obj rfl rfl ?_
  refine q_aload_n (pc' := 12) (dk_at dkX5_makeStep 5 rfl) rfl rfl ?_
  refine r_getf (pc' := 15) fl_RX5_10 (dk_at dkX5_makeStep 6 rfl) hB.obj rfl rfl ?_
  refine r_getf (pc' := 18) fl_RX5_99 (dk_at dkX5_makeStep 7 rfl) hN.obj rfl rfl ?_
  refine r_cVJ (pc' := 21) (As := [vR (b + 2), vR (b + 15)]) (S := []) cv_RX5_171 (dk_at dkX5_makeStep 8 rfl) hM.obj rfl (k_Timing_follow (d := 3) (by omega) hk1 hkp (by omega) (by omega) hQ hK hM) (by omega) (Nat.zero_le _) (Nat.zero_le _) rfl (Nat.le_of_ble_eq_true rfl) rfl (Nat.le_of_ble_eq_true rfl) rfl (fun xx1 hh2 hphh2 => ?_)
  obtain ⟨hx, BV, JV, tot, hM, hTI, htt, hGf⟩ := hphh2
  have hB := isBM.frm hB hGf (by omega)
  have hN := isState.frm hN hGf (by omega)
  have hQ := isShop.frm hQ hGf (by omega)
  have hK := isPlan.frm hK hGf (by omega)
  have hD := DrP.frm hD hGf (by omega)
  have hF := hF.tr hGf (by omega)
  subst hx
  refine q_lstore_n (pc' := 22) (L' := [some (vR b), some (vJ (cvS S P)), none, none, none]) (dk_at dkX5_makeStep 9 rfl) (by decide) rfl rfl ?_
  refine q_iconst (pc' := 23) (dk_at dkX5_makeStep 10 rfl) rfl ?_
  refine q_istore_n (pc' := 24) (L' := [some (vR b), some (vJ (cvS S P)), none, some (vI 0), none]) (dk_at dkX5_makeStep 11 rfl) (by decide) rfl rfl ?_
  exact l_step1 (h := h) hd hk1 hkp hkp.1 hcr P.sz 0 _ (by omega) (fun i' hi' => absurd hi' (Nat.not_lt_zero _)) ⟨hB, hN, hQ, hK, hD, ⟨_, _, _, _, hM⟩⟩ (fun k a c => hF k (by omega))
