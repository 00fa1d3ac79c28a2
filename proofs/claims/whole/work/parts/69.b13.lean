/-! BatchMachine: improve, latestRelease -/
theorem StepR.ok {S : Shp} {P Q : PlS} {x : Int} (hkp : PlOk S.cnt P) (h : StepR S P x Q) : PlOk S.cnt Q ∧ Q.sz = P.sz := by
  have hs := Pok.sqm hkp
  have h8 : P.sz ≤ 8 := hkp.1
  rcases h with ⟨-, i, i1, -, -, i4⟩ | ⟨-, -, i, j, i1, i2, -, -, -, -, i4⟩ | ⟨-, rfl, -⟩
  · exact ⟨(GrP.ok h8 (mvz_sqm hs (by omega) i1) i4).1, by obtain ⟨_, _, _, _, rfl⟩ := i4; rfl⟩
  · exact ⟨(GrP.ok h8 (mvz_sqm hs i1 i2) i4).1, by obtain ⟨_, _, _, _, rfl⟩ := i4; rfl⟩
  · exact ⟨hkp, rfl⟩
theorem StepR.x {S : Shp} {P Q : PlS} {x : Int} (h : StepR S P x Q) : x = 0 ∨ x = 1 := by
  rcases h with h | h | h <;> omega
/-- k steps of improvement -/
def Imps (S : Shp) : Nat → PlS → PlS → Prop
  | 0, P, Q => Q = P
  | k + 1, P, Q => ∃ R, Imps S k P R ∧ StepR S R 1 Q
set_option maxHeartbeats 4000000 in
set_option maxRecDepth 100000 in
theorem l_improve {d n : Nat} {h : PH} {s0 : Int} {b : Nat} {S : Shp} {P : PlS} {kn bs : Int} {sv tl : Nat} {x : Nat → Snp} {tx : Nat → Int} (hd : 20 ≤ d) (hk1 : Sok S) (hs0 : 0 ≤ s0 ∧ s0 ≤ 50) : ∀ (c : Nat) (k : Nat) (h1 : PH) (Q : PlS), ((k : Int) + c = s0) → (ImI n h1 b S Q kn bs (pshN sv : Int) (tl : Int) tx) → (SvI n h1 b (pshX sv x (S, P, kn, bs))) → (ShA n h1 (b + 105)) → (SxP n h1 (b + 118)) → (Imps S k P Q) → (PlOk S.cnt Q) → (Fr h h1 b (b + 149)) → QW mX5_improve d 1 6 (FX n (fun r h' => ∃ v, r = some (vI v) ∧ (0 ≤ s0 ∧ s0 ≤ 50) ∧ ∃ (k : Nat) (Q : PlS), v = (k : Int) ∧ Imps S k P Q ∧ PlOk S.cnt Q ∧ (v = s0 ∨ (v < s0 ∧ StepR S Q 0 Q)) ∧ BMI n h' b ((S, Q, kn, bs), pshN sv, (pshX sv x (S, P, kn, bs)), tx, tl) ∧ Fr h h' b (b + 149)) (fun E h' => h' = h ∧ E = "java/lang/IllegalArgumentException" ∧ ¬ (0 ≤ s0 ∧ s0 ≤ 50))) 0 0 26 [some (vR b), some (vI s0), some (vI (k : Int))] [] false n h1 := by
  intro c
  induction c with
  | zero =>
    intro k h1 Q hc hI hZ hU hX him hok hF
    have hB := hI.1
    refine q_iload_n (pc' := 27) (dk_at dkX5_improve 14 rfl) rfl rfl ?_
    refine q_iload_n (pc' := 28) (dk_at dkX5_improve 15 rfl) rfl rfl ?_
    refine q_icmp_ge (tgt := 46) (pc' := 31) (dk_at dkX5_improve 16 rfl) rfl rfl (by omega) (by omega) (fun c28 => ?_) (fun c28 => ?_)
    · refine q_iload_n (pc' := 47) (dk_at dkX5_improve 24 rfl) rfl rfl ?_
      refine x_iret rfl (dk_at dkX5_improve 25 rfl) ?_
      exact ⟨_, rfl, hs0, k, Q, by omega, him, hok, Or.inl rfl, ⟨hI.1, ⟨hI.2.1, hI.2.2.1, hI.2.2.2.1⟩, hZ, hI.2.2.2.2.1, hI.2.2.2.2.2, hU, hX⟩, hF⟩
    · exfalso
      omega
  | succ c ih =>
    intro k h1 Q hc hI hZ hU hX him hok hF
    have hB := hI.1
    refine q_iload_n (pc' := 27) (dk_at dkX5_improve 14 rfl) rfl rfl ?_
    refine q_iload_n (pc' := 28) (dk_at dkX5_improve 15 rfl) rfl rfl ?_
    refine q_icmp_ge (tgt := 46) (pc' := 31) (dk_at dkX5_improve 16 rfl) rfl rfl (by omega) (by omega) (fun c28 => ?_) (fun c28 => ?_)
    · refine q_iload_n (pc' := 47) (dk_at dkX5_improve 24 rfl) rfl rfl ?_
      refine x_iret rfl (dk_at dkX5_improve 25 rfl) ?_
      exact ⟨_, rfl, hs0, k, Q, by omega, him, hok, Or.inl rfl, ⟨hI.1, ⟨hI.2.1, hI.2.2.1, hI.2.2.2.1⟩, hZ, hI.2.2.2.2.1, hI.2.2.2.2.2, hU, hX⟩, hF⟩
    · refine q_aload_n (pc' := 32) (dk_at dkX5_improve 17 rfl) rfl rfl ?_
      refine r_cVI (pc' := 35) (As := []) (S := []) cv_RX5_165 (dk_at dkX5_improve 18 rfl) hB.obj rfl (k_BM_makeStep (d := 6) (by omega) hk1 hok hI) (by omega) (Nat.zero_le _) (Nat.zero_le _) rfl (Nat.le_of_ble_eq_true rfl) rfl (Nat.le_of_ble_eq_true rfl) rfl (fun xx1 hh2 hphh2 => ?_)
      obtain ⟨Q2, hst, hI, hG⟩ := hphh2
      obtain ⟨hm1, hG1, hG2⟩ := hG.split
      have hZ := SvI.frm hZ hG1 (by omega)
      have hU := ShA.frm hU hG1 (by omega)
      have hX := SxP.frm hX hG1 (by omega)
      have hF := hF.tr hG1 (by omega)
      have hZ := SvI.frm hZ hG2 (by omega)
      have hU := ShA.frm hU hG2 (by omega)
      have hX := SxP.frm hX hG2 (by omega)
      have hF := hF.tr hG2 (by omega)
      have hxr := hst.x
      refine q_if_ne (tgt := 40) (pc' := 38) (dk_at dkX5_improve 19 rfl) rfl rfl (by omega) (fun c35 => ?_) (fun c35 => ?_)
      · refine q_iinc (pc' := 43) (L' := [some (vR b), some (vI s0), some (vI ((k : Int) + 1))]) (dk_at dkX5_improve 22 rfl) (by decide) rfl rfl rfl ?_
        rw [show ((k : Int) + 1) = ((k + 1 : Nat) : Int) by omega]
        refine q_goto (tgt := 26) (dk_at dkX5_improve 23 rfl) rfl ?_
        have e1 : xx1 = 1 := by omega
        rw [e1] at hst
        exact ih (k + 1) _ Q2 (by omega) hI hZ hU hX ⟨Q, him, hst⟩ (hst.ok hok).1 hF
      · refine q_iload_n (pc' := 39) (dk_at dkX5_improve 20 rfl) rfl rfl ?_
        refine x_iret rfl (dk_at dkX5_improve 21 rfl) ?_
        have e0 : Q2 = Q := by rcases hst with z | z | z; omega; omega; exact z.2.1
        rw [e0] at hI hst
        rw [show xx1 = 0 by omega] at hst
        exact ⟨_, rfl, hs0, k, Q, rfl, him, hok, Or.inr ⟨by omega, hst⟩, ⟨hI.1, ⟨hI.2.1, hI.2.2.1, hI.2.2.2.1⟩, hZ, hI.2.2.2.2.1, hI.2.2.2.2.2, hU, hX⟩, hF⟩

set_option maxHeartbeats 4000000 in
set_option maxRecDepth 100000 in
theorem k_BM_improve {d n : Nat} {h : PH} {b : Nat} {S : Shp} {P : PlS} {kn bs : Int} {sv tl : Nat} {x : Nat → Snp} {tx : Nat → Int} {s0 : Int} (hd : 20 ≤ d) (hI : BMI n h b ((S, P, kn, bs), sv, x, tx, tl)) (hO : BOk ((S, P, kn, bs), sv, x, tx, tl)) (hi1 : IR s0) : CtrX mX5_improve d [vR b, vI s0] n h (fun r h' => ∃ v, r = some (vI v) ∧ (0 ≤ s0 ∧ s0 ≤ 50) ∧ ∃ (k : Nat) (Q : PlS), v = (k : Int) ∧ Imps S k P Q ∧ PlOk S.cnt Q ∧ (v = s0 ∨ (v < s0 ∧ StepR S Q 0 Q)) ∧ BMI n h' b ((S, Q, kn, bs), pshN sv, (pshX sv x (S, P, kn, bs)), tx, tl) ∧ Fr h h' b (b + 149)) (fun E h' => h' = h ∧ E = "java/lang/IllegalArgumentException" ∧ ¬ (0 ≤ s0 ∧ s0 ≤ 50)) := by
  obtain ⟨hB, hSt, hZ, hR⟩ := hI
  have hB : isBM n h b (sv : Int) tx (tl : Int) := hB
  obtain ⟨hN, hQ, hK⟩ := hSt
  have hN : isState n h (b + 1) kn bs := hN
  have hQ : isShp n h (b + 2) S := hQ
  have hK : isPlS n h (b + 15) P := hK
  have hZ : SvI n h b x := hZ
  obtain ⟨hk, hsv, hks, htl, htx⟩ := hO
  have hk : SnOk (S, P, kn, bs) := hk
  have hsv : sv ≤ 4 := hsv
  have htl : tl ≤ 60 := htl
  have htx : ∀ i, 0 ≤ tx i ∧ tx i ≤ 127 := htx
  have hk1 : Sok S := hk.1
  have hc8 := hk1.c
  have hkp : Pok S.cnt P.od P.en P.bc P.sz := hk.2.1
  have hp8 : P.sz ≤ 8 := hkp.1
  have hpb : P.bc ≤ P.sz := hkp.2.1
  have hkb : Bst S kn bs := hk.2.2
  have hkn := hkb.1
  have hF : Fr h h b (b + 149) := Fr.rf
  refine q_beginX (L := [some (vR b), some (vI s0), none]) rfl ?_
  refine q_iload_n (pc' := 1) (dk_at dkX5_improve 0 rfl) rfl rfl ?_
  refine q_if_lt (tgt := 10) (pc' := 4) (dk_at dkX5_improve 1 rfl) rfl rfl (by omega) (fun c1 => ?_) (fun c1 => ?_)
  · refine q_throw (cls := "java/lang/IllegalArgumentException") (text := "steps is out of range") th_IAE rfl rfl (by decide +kernel) (by omega) (Nat.le_of_ble_eq_true rfl) (dk_at dkX5_improve 5 rfl) (dk_at dkX5_improve 6 rfl) (dk_at dkX5_improve 7 rfl) (dk_at dkX5_improve 8 rfl) (dk_at dkX5_improve 9 rfl) ?_
    exact ⟨rfl, rfl, by omega⟩
  · refine q_iload_n (pc' := 5) (dk_at dkX5_improve 2 rfl) rfl rfl ?_
    refine q_bipush (pc' := 7) (dk_at dkX5_improve 3 rfl) (by decide +kernel) rfl ?_
    refine q_icmp_le (tgt := 20) (pc' := 10) (dk_at dkX5_improve 4 rfl) rfl rfl (by omega) (by omega) (fun c7 => ?_) (fun c7 => ?_)
    · refine q_aload_n (pc' := 21) (dk_at dkX5_improve 10 rfl) rfl rfl ?_
      refine r_cVV (pc' := 24) (As := []) (S := []) cv_RX5_75 (dk_at dkX5_improve 11 rfl) hB.obj rfl (k_BM_saveState (d := 4) (c := (S, P, kn, bs)) (by omega) hk hsv hB ⟨hN, hQ, hK⟩ hZ) (by omega) (Nat.zero_le _) (Nat.zero_le _) rfl (Nat.le_of_ble_eq_true rfl) rfl (Nat.le_of_ble_eq_true rfl) rfl (fun hh2 hphh2 => ?_)
      obtain ⟨hB, hSt, hZ, hGf⟩ := hphh2
      obtain ⟨hN, hQ, hK⟩ := hSt
      have hN : isState n hh2 (b + 1) kn bs := hN
      have hQ : isShp n hh2 (b + 2) S := hQ
      have hK : isPlS n hh2 (b + 15) P := hK
      have hR := BMR.frm hR hGf (by omega)
      have hF := hF.tr hGf (by omega)
      refine q_iconst (pc' := 25) (dk_at dkX5_improve 12 rfl) rfl ?_
      refine q_istore_n (pc' := 26) (L' := [some (vR b), some (vI s0), some (vI 0)]) (dk_at dkX5_improve 13 rfl) (by decide) rfl rfl ?_
      obtain ⟨hD, hM, hU, hX⟩ := hR
      exact l_improve (h := h) hd hk1 (by omega) s0.toNat 0 _ P (by omega) ⟨hB, hN, hQ, hK, hD, hM⟩ hZ hU hX rfl hkp hF
    · refine q_throw (cls := "java/lang/IllegalArgumentException") (text := "steps is out of range") th_IAE rfl rfl (by decide +kernel) (by omega) (Nat.le_of_ble_eq_true rfl) (dk_at dkX5_improve 5 rfl) (dk_at dkX5_improve 6 rfl) (dk_at dkX5_improve 7 rfl) (dk_at dkX5_improve 8 rfl) (dk_at dkX5_improve 9 rfl) ?_
      exact ⟨rfl, rfl, by omega⟩

theorem rls_put {n : Nat} {h : PH} {q : Nat} {S : Shp} {j : Nat} {r r' : Int} (H : isShp n h q ((S.rls j r).rls j r')) : isShp n h q (S.rls j r') := by
  rw [rls_rls] at H
  exact H
set_option maxHeartbeats 4000000 in
set_option maxRecDepth 100000 in
theorem l_lid {d n : Nat} {h : PH} {b j lm : Nat} {S : Shp} {D : PlS} {bst sv tl : Int} {tx : Nat → Int} {kn : Nat} (hd : 4 ≤ d) (hk1 : Sok S) (hj : j < 8) (hlm : lm ≤ 300) (hkp : PlOk S.cnt D) (hbr : -2000000000000 ≤ bst ∧ bst ≤ 2000000000000) : ∀ (c : Nat) (i g bd : Nat) (h1 : PH) (r1 : Int) (x9 : Option PV), (i + c = 100) → (kn ≤ g ∧ g < bd ∧ bd ≤ lm + 1) → (cvS (S.rls j (g : Int)) D ≤ bst) → (isBM n h1 b sv tx tl) → (isShp n h1 (b + 105) (S.rls j r1)) → (isPlS n h1 (b + 88) D) → (TmP n h1 (b + 91)) → (Fr h h1 (b + 91) (b + 118)) → QN mX5_latestInDraft d (FI n (fun x h' => ∃ (g : Nat) (r2 : Int), x = (g : Int) ∧ kn ≤ g ∧ g ≤ lm ∧ cvS (S.rls j (g : Int)) D ≤ bst ∧ isBM n h' b sv tx tl ∧ isShp n h' (b + 105) (S.rls j r2) ∧ isPlS n h' (b + 88) D ∧ TmP n h' (b + 91) ∧ Fr h h' (b + 91) (b + 118))) 11 [some (vR b), some (vI (j : Int)), some (vI (kn : Int)), some (vI (lm : Int)), some (vJ bst), none, some (vI (g : Int)), some (vI (bd : Int)), some (vI (i : Int)), x9] [] n h1 := by
  intro c
  induction c with
  | zero =>
    intro i g bd h1 r1 x9 hc hg hcg hB hU hD hM hF
    refine q_iload (pc' := 13) (dk_at dkX5_latestInDraft 8 rfl) rfl rfl ?_
    refine q_bipush (pc' := 15) (dk_at dkX5_latestInDraft 9 rfl) (by decide +kernel) rfl ?_
    refine q_icmp_ge (tgt := 87) (pc' := 18) (dk_at dkX5_latestInDraft 10 rfl) rfl rfl (by omega) (by omega) (fun c15 => ?_) (fun c15 => ?_)
    · refine q_iload (pc' := 89) (dk_at dkX5_latestInDraft 47 rfl) rfl rfl ?_
      refine r_iret rfl (dk_at dkX5_latestInDraft 48 rfl) ?_
      exact ⟨g, r1, rfl, by omega, by omega, hcg, hB, hU, hD, hM, hF⟩
    · exfalso
      omega
  | succ c ih =>
    intro i g bd h1 r1 x9 hc hg hcg hB hU hD hM hF
    refine q_iload (pc' := 13) (dk_at dkX5_latestInDraft 8 rfl) rfl rfl ?_
    refine q_bipush (pc' := 15) (dk_at dkX5_latestInDraft 9 rfl) (by decide +kernel) rfl ?_
    refine q_icmp_ge (tgt := 87) (pc' := 18) (dk_at dkX5_latestInDraft 10 rfl) rfl rfl (by omega) (by omega) (fun c15 => ?_) (fun c15 => ?_)
    · refine q_iload (pc' := 89) (dk_at dkX5_latestInDraft 47 rfl) rfl rfl ?_
      refine r_iret rfl (dk_at dkX5_latestInDraft 48 rfl) ?_
      exact ⟨g, r1, rfl, by omega, by omega, hcg, hB, hU, hD, hM, hF⟩
    · refine q_iload (pc' := 20) (dk_at dkX5_latestInDraft 11 rfl) rfl rfl ?_
      refine q_iload (pc' := 22) (dk_at dkX5_latestInDraft 12 rfl) rfl rfl ?_
      refine q_isub (pc' := 23) (dk_at dkX5_latestInDraft 13 rfl) rfl ?_
      refine q_iconst (pc' := 24) (dk_at dkX5_latestInDraft 14 rfl) rfl ?_
      refine q_icmp_le (tgt := 87) (pc' := 27) (dk_at dkX5_latestInDraft 15 rfl) rfl rfl (by omega) (by omega) (fun c24 => ?_) (fun c24 => ?_)
      · refine q_iload (pc' := 89) (dk_at dkX5_latestInDraft 47 rfl) rfl rfl ?_
        refine r_iret rfl (dk_at dkX5_latestInDraft 48 rfl) ?_
        exact ⟨g, r1, rfl, by omega, by omega, hcg, hB, hU, hD, hM, hF⟩
      · refine q_iload (pc' := 29) (dk_at dkX5_latestInDraft 16 rfl) rfl rfl ?_
        refine q_iload (pc' := 31) (dk_at dkX5_latestInDraft 17 rfl) rfl rfl ?_
        refine q_iadd (pc' := 32) (dk_at dkX5_latestInDraft 18 rfl) rfl ?_
        refine q_iconst (pc' := 33) (dk_at dkX5_latestInDraft 19 rfl) rfl ?_
        refine q_ishr (pc' := 34) (dk_at dkX5_latestInDraft 20 rfl) (by omega) (by omega) rfl ?_
        have bb1 := nt_shr_r (g + bd) 1
        rw [show (((g : Int) + (bd : Int)) / 2 ^ (1 : Int).toNat) = (((g + bd) / 2 ^ 1 : Nat) : Int) from nt_shr (g + bd) 1]
        have hmd : g < (g + bd) / 2 ^ 1 ∧ (g + bd) / 2 ^ 1 < bd := by rw [show 2 ^ 1 = 2 from rfl]; omega
        generalize (g + bd) / 2 ^ 1 = md at hmd ⊢
        have hkd := rls_ok hk1 j (r := (md : Int)) (by omega)
        refine q_istore (pc' := 36) (L' := [some (vR b), some (vI (j : Int)), some (vI (kn : Int)), some (vI (lm : Int)), some (vJ bst), none, some (vI (g : Int)), some (vI (bd : Int)), some (vI (i : Int)), some (vI (md : Int))]) (dk_at dkX5_latestInDraft 21 rfl) (by decide) rfl rfl ?_
        refine q_aload_n (pc' := 37) (dk_at dkX5_latestInDraft 22 rfl) rfl rfl ?_
        refine r_getf (pc' := 40) fl_RX5_41 (dk_at dkX5_latestInDraft 23 rfl) hB.obj rfl rfl ?_
        refine r_getf (pc' := 43) fl_RX5_78 (dk_at dkX5_latestInDraft 24 rfl) hU.obj rfl rfl ?_
        refine q_iconst (pc' := 44) (dk_at dkX5_latestInDraft 25 rfl) rfl ?_
        refine r_aald1 (pc' := 45) (dk_at dkX5_latestInDraft 26 rfl) hU.values 2 (by omega) (by omega) (by decide) rfl ?_
        refine q_iload_n (pc' := 46) (dk_at dkX5_latestInDraft 27 rfl) rfl rfl ?_
        refine q_iload (pc' := 48) (dk_at dkX5_latestInDraft 28 rfl) rfl rfl ?_
        refine r_iast (pc' := 49) (dk_at dkX5_latestInDraft 29 rfl) (hU.values_at 2 (by omega)) j (by omega) (by omega) (by decide) rfl (fun hh2 ehh2 => ?_)
        have hB := hB.off ehh2 (by omega)
        have hU := isShop.w_values (by omega) hU ehh2
        have hD := hD.off ehh2 (by omega)
        have hM := hM.off ehh2 (by omega)
        have hF := hF.put ehh2 (by omega)
        have hU : isShp n hh2 (b + 105) (S.rls j (md : Int)) := rls_put hU
        obtain ⟨BV0, JV0, tot0, fre0, hM⟩ := hM
        refine q_aload_n (pc' := 50) (dk_at dkX5_latestInDraft 30 rfl) rfl rfl ?_
        refine r_getf (pc' := 53) fl_RX5_34 (dk_at dkX5_latestInDraft 31 rfl) hB.obj rfl rfl ?_
        refine q_aload_n (pc' := 54) (dk_at dkX5_latestInDraft 32 rfl) rfl rfl ?_
        refine r_getf (pc' := 57) fl_RX5_41 (dk_at dkX5_latestInDraft 33 rfl) hB.obj rfl rfl ?_
        refine q_aload_n (pc' := 58) (dk_at dkX5_latestInDraft 34 rfl) rfl rfl ?_
        refine r_getf (pc' := 61) fl_RX5_27 (dk_at dkX5_latestInDraft 35 rfl) hB.obj rfl rfl ?_
        refine r_cVJ (pc' := 64) (As := [vR (b + 105), vR (b + 88)]) (S := []) cv_RX5_171 (dk_at dkX5_latestInDraft 36 rfl) hM.obj rfl (k_Timing_follow (d := 3) (S := S.rls j (md : Int)) (by omega) hkd hkp (by omega) (by omega) hU hD hM) (by omega) (Nat.zero_le _) (Nat.zero_le _) rfl (Nat.le_of_ble_eq_true rfl) rfl (Nat.le_of_ble_eq_true rfl) rfl (fun xx3 hh4 hphh4 => ?_)
        obtain ⟨hx, BV, JV, tot, hM, hTI, htt, hGf⟩ := hphh4
        have hB := isBM.frm hB hGf (by omega)
        have hU := isShop.frm hU hGf (by omega)
        have hD := isPlan.frm hD hGf (by omega)
        have hF := hF.tr hGf (by omega)
        have hM : TmP n hh4 (b + 91) := ⟨_, _, _, _, hM⟩
        have hxr := costP_r hkd hkp
        refine q_lload (pc' := 66) (dk_at dkX5_latestInDraft 37 rfl) rfl rfl ?_
        refine q_lcmp (pc' := 67) (dk_at dkX5_latestInDraft 38 rfl) (by omega) (by omega) rfl ?_
        refine q_if_gt (tgt := 77) (pc' := 70) (dk_at dkX5_latestInDraft 39 rfl) rfl rfl (cmpz_IR _ _) (fun c67 => ?_) (fun c67 => ?_)
        · rw [cmpz_gt] at c67
          refine q_iload (pc' := 79) (dk_at dkX5_latestInDraft 43 rfl) rfl rfl ?_
          refine q_istore (pc' := 81) (L' := [some (vR b), some (vI (j : Int)), some (vI (kn : Int)), some (vI (lm : Int)), some (vJ bst), none, some (vI (g : Int)), some (vI (md : Int)), some (vI (i : Int)), some (vI (md : Int))]) (dk_at dkX5_latestInDraft 44 rfl) (by decide) rfl rfl ?_
          refine q_iinc (pc' := 84) (L' := [some (vR b), some (vI (j : Int)), some (vI (kn : Int)), some (vI (lm : Int)), some (vJ bst), none, some (vI (g : Int)), some (vI (md : Int)), some (vI ((i : Int) + 1)), some (vI (md : Int))]) (dk_at dkX5_latestInDraft 45 rfl) (by decide) rfl rfl rfl ?_
          rw [show ((i : Int) + 1) = ((i + 1 : Nat) : Int) by omega]
          refine q_goto (tgt := 11) (dk_at dkX5_latestInDraft 46 rfl) rfl ?_
          exact ih (i + 1) g md _ (md : Int) _ (by omega) (by omega) hcg hB hU hD hM hF
        · rw [cmpz_gt] at c67
          refine q_iload (pc' := 72) (dk_at dkX5_latestInDraft 40 rfl) rfl rfl ?_
          refine q_istore (pc' := 74) (L' := [some (vR b), some (vI (j : Int)), some (vI (kn : Int)), some (vI (lm : Int)), some (vJ bst), none, some (vI (md : Int)), some (vI (bd : Int)), some (vI (i : Int)), some (vI (md : Int))]) (dk_at dkX5_latestInDraft 41 rfl) (by decide) rfl rfl ?_
          refine q_goto (tgt := 81) (dk_at dkX5_latestInDraft 42 rfl) rfl ?_
          refine q_iinc (pc' := 84) (L' := [some (vR b), some (vI (j : Int)), some (vI (kn : Int)), some (vI (lm : Int)), some (vJ bst), none, some (vI (md : Int)), some (vI (bd : Int)), some (vI ((i : Int) + 1)), some (vI (md : Int))]) (dk_at dkX5_latestInDraft 45 rfl) (by decide) rfl rfl rfl ?_
          rw [show ((i : Int) + 1) = ((i + 1 : Nat) : Int) by omega]
          refine q_goto (tgt := 11) (dk_at dkX5_latestInDraft 46 rfl) rfl ?_
          exact ih (i + 1) md bd _ (md : Int) _ (by omega) (by omega) (by unfold cvS; omega) hB hU hD hM hF

set_option maxHeartbeats 4000000 in
set_option maxRecDepth 100000 in
theorem k_BM_latestInDraft {d n : Nat} {h : PH} {b j lm : Nat} {S : Shp} {D : PlS} {bst sv tl : Int} {tx : Nat → Int} {kn : Nat} {r1 : Int} (hd : 4 ≤ d) (hk1 : Sok S) (hj : j < 8) (hlm : lm ≤ 300) (hkp : PlOk S.cnt D) (hbr : -2000000000000 ≤ bst ∧ bst ≤ 2000000000000) (hknl : kn ≤ lm) (hcg : cvS (S.rls j (kn : Int)) D ≤ bst) (hB : isBM n h b sv tx tl) (hU : isShp n h (b + 105) (S.rls j r1)) (hD : isPlS n h (b + 88) D) (hM : TmP n h (b + 91)) : CtrI mX5_latestInDraft d [vR b, vI (j : Int), vI (kn : Int), vI (lm : Int), vJ bst] n h (fun x h' => ∃ (g : Nat) (r2 : Int), x = (g : Int) ∧ kn ≤ g ∧ g ≤ lm ∧ cvS (S.rls j (g : Int)) D ≤ bst ∧ isBM n h' b sv tx tl ∧ isShp n h' (b + 105) (S.rls j r2) ∧ isPlS n h' (b + 88) D ∧ TmP n h' (b + 91) ∧ Fr h h' (b + 91) (b + 118)) := by
  have hF : Fr h h (b + 91) (b + 118) := Fr.rf
  refine q_beginI (L := [some (vR b), some (vI (j : Int)), some (vI (kn : Int)), some (vI (lm : Int)), some (vJ bst), none, none, none, none, none]) rfl ?_
  refine q_iload_n (pc' := 1) (dk_at dkX5_latestInDraft 0 rfl) rfl rfl ?_
  refine q_istore (pc' := 3) (L' := [some (vR b), some (vI (j : Int)), some (vI (kn : Int)), some (vI (lm : Int)), some (vJ bst), none, some (vI (kn : Int)), none, none, none]) (dk_at dkX5_latestInDraft 1 rfl) (by decide) rfl rfl ?_
  refine q_iload_n (pc' := 4) (dk_at dkX5_latestInDraft 2 rfl) rfl rfl ?_
  refine q_iconst (pc' := 5) (dk_at dkX5_latestInDraft 3 rfl) rfl ?_
  refine q_iadd (pc' := 6) (dk_at dkX5_latestInDraft 4 rfl) rfl ?_
  refine q_istore (pc' := 8) (L' := [some (vR b), some (vI (j : Int)), some (vI (kn : Int)), some (vI (lm : Int)), some (vJ bst), none, some (vI (kn : Int)), some (vI ((lm : Int) + 1)), none, none]) (dk_at dkX5_latestInDraft 5 rfl) (by decide) rfl rfl ?_
  refine q_iconst (pc' := 9) (dk_at dkX5_latestInDraft 6 rfl) rfl ?_
  refine q_istore (pc' := 11) (L' := [some (vR b), some (vI (j : Int)), some (vI (kn : Int)), some (vI (lm : Int)), some (vJ bst), none, some (vI (kn : Int)), some (vI ((lm : Int) + 1)), some (vI 0), none]) (dk_at dkX5_latestInDraft 7 rfl) (by decide) rfl rfl ?_
  exact l_lid (h := h) hd hk1 hj hlm hkp hbr 100 0 kn (lm + 1) _ r1 none (by omega) (by omega) hcg hB hU hD hM hF
