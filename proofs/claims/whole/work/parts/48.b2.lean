/-! BatchMachine: the least cost -/
def DrP (n : Nat) (h : PH) (p : Nat) : Prop := ∃ (size : Int) (bc : Nat) (o e : Nat → Int), isPlan n h p size (bc : Int) o e ∧ ∀ j, 0 ≤ o j ∧ o j ≤ 7
def TmP (n : Nat) (h : PH) (t : Nat) : Prop := ∃ (BV JV : Nat → Nat → Int) (tot : Nat → Int) (fre : Int), isTiming n h t BV JV tot fre
def SxP (n : Nat) (h : PH) (b : Nat) : Prop := ∃ (S : Shp) (fc : Int) (fo : Nat → Int), SrP n h b S fc fo
theorem DrP.frm {n : Nat} {h h' : PH} {p lo hi : Nat} (H : DrP n h p) (E : Fr h h' lo hi) (hk : hi ≤ p ∨ p + 3 ≤ lo) : DrP n h' p := by
  obtain ⟨s, bc, o, e, h1, h2⟩ := H
  exact ⟨s, bc, o, e, h1.frm E (by omega), h2⟩
theorem TmP.frm {n : Nat} {h h' : PH} {p lo hi : Nat} (H : TmP n h p) (E : Fr h h' lo hi) (hk : hi ≤ p ∨ p + 14 ≤ lo) : TmP n h' p := by
  obtain ⟨a, b, c, d, h1⟩ := H
  exact ⟨a, b, c, d, h1.frm E (by omega)⟩
theorem SrP.frm {n : Nat} {h h' : PH} {b : Nat} {S : Shp} {fc : Int} {fo : Nat → Int} {lo hi : Nat} (H : SrP n h b S fc fo) (E : Fr h h' lo hi) (hk : hi ≤ b ∨ b + 31 ≤ lo) : SrP n h' b S fc fo := by
  obtain ⟨al, fi, bs, fl, sc, st, fa, re, wo, lg, rk, ch, sC, sT, sX, G, hX, hS, h1, h2, h3⟩ := H
  exact ⟨al, fi, bs, fl, sc, st, fa, re, wo, lg, rk, ch, sC, sT, sX, G, hX.frm E (by omega), isShop.frm hS E (by omega), h1, h2, h3⟩
theorem SxP.frm {n : Nat} {h h' : PH} {b : Nat} {lo hi : Nat} (H : SxP n h b) (E : Fr h h' lo hi) (hk : hi ≤ b ∨ b + 31 ≤ lo) : SxP n h' b := by
  obtain ⟨S, fc, fo, h1⟩ := H
  exact ⟨S, fc, fo, h1.frm E hk⟩
theorem k_BM_costOfRule2 {d n : Nat} {h : PH} {b q rule : Nat} {S : Shp} {sv tl ah : Int} {tx : Nat → Int} (hd : 5 ≤ d) (hk : Sok S) (hrl : rule ≤ 3) (ha : ah = -1 ∨ (0 ≤ ah ∧ ah < (S.cnt : Int))) (hbq : q + 13 ≤ b + 88 ∨ b + 105 ≤ q) (hB : isBM n h b sv tx tl) (hQ : isShp n h q S) (hP : DrP n h (b + 88)) (hM : TmP n h (b + 91)) : CtrJ mX5_costOfRule d [vR b, vR q, vI (rule : Int), vI ah] n h (fun x h' => (-1000000005000 ≤ x ∧ x ≤ 1000000000000 ∧ (0 < S.cnt → fnS S ah ≤ x)) ∧ isBM n h' b sv tx tl ∧ isShp n h' q S ∧ DrP n h' (b + 88) ∧ TmP n h' (b + 91) ∧ Fr h h' (b + 88) (b + 105)) := by
  obtain ⟨size, bc, o, e, hP, hO⟩ := hP
  obtain ⟨BV, JV, tot, fre, hM⟩ := hM
  have hsq := rlO_sq hk.c (rule := rule) hO ha
  refine (k_BM_costOfRule hd hk hrl ha hbq hO hB hQ hP hM).mono (fun x h' z => ?_)
  obtain ⟨z1, z2, z3, z4, z5, z6⟩ := z
  have hr := sqC_r hk (e := e) hsq
  exact ⟨⟨by omega, by omega, fun h0 => by rw [z1]; exact sqC_ge hk hsq (rlO_fst hk.c hO ha) h0⟩, z2, z3, ⟨_, _, _, _, z4, hsq.1⟩, z5, z6⟩
set_option maxHeartbeats 4000000 in
set_option maxRecDepth 100000 in
theorem l_least {d n : Nat} {F : FT} {h : PH} {b q : Nat} {S : Shp} {sv tl fi : Int} {tx : Nat → Int} (hd : 13 ≤ d) (hk : Sok S) (ha : fi = -1 ∨ (0 ≤ fi ∧ fi < (S.cnt : Int))) (hc8 : S.cnt ≤ 8) (hbq : q + 13 ≤ b + 88 ∨ b + 105 ≤ q)(hex : ∀ (K : Int) (h1 : PH) (r : Int), (-1000000005000 ≤ K ∧ K ≤ 1000000000000 ∧ (0 < S.cnt → fnS S fi ≤ K)) → isBM n h1 b sv tx tl → isShp n h1 q S → DrP n h1 (b + 88) → TmP n h1 (b + 91) → SxP n h1 (b + 118) → Fr h h1 (b + 88) (b + 105) → QN mX5_leastCost d F 45 [some (vR b), some (vR q), some (vI fi), some (vJ K), none, some (vI r)] [] n h1) : ∀ (c : Nat) (rule : Nat) (K : Int) (h1 : PH), (rule + c = 4) → (-1000000005000 ≤ K ∧ K ≤ 1000000000000 ∧ (0 < S.cnt → fnS S fi ≤ K)) → (isBM n h1 b sv tx tl) → (isShp n h1 q S) → (DrP n h1 (b + 88)) → (TmP n h1 (b + 91)) → (SxP n h1 (b + 118)) → (Fr h h1 (b + 88) (b + 105)) → QN mX5_leastCost d F 20 [some (vR b), some (vR q), some (vI fi), some (vJ K), none, some (vI (rule : Int))] [] n h1 := by
  intro c
  induction c with
  | zero =>
    intro rule K h1 hc hK hB hQ hP hM hX hF
    refine q_iload (pc' := 22) (dk_at dkX5_leastCost 13 rfl) rfl rfl ?_
    refine q_iconst (pc' := 23) (dk_at dkX5_leastCost 14 rfl) rfl ?_
    refine q_icmp_ge (tgt := 45) (pc' := 26) (dk_at dkX5_leastCost 15 rfl) rfl rfl (by omega) (by omega) (fun c23 => ?_) (fun c23 => ?_)
    · first | (exfalso; omega; done) | exact hex K h1 _ hK hB hQ hP hM hX hF
    · exfalso
      omega
  | succ c ih =>
    intro rule K h1 hc hK hB hQ hP hM hX hF
    refine q_iload (pc' := 22) (dk_at dkX5_leastCost 13 rfl) rfl rfl ?_
    refine q_iconst (pc' := 23) (dk_at dkX5_leastCost 14 rfl) rfl ?_
    refine q_icmp_ge (tgt := 45) (pc' := 26) (dk_at dkX5_leastCost 15 rfl) rfl rfl (by omega) (by omega) (fun c23 => ?_) (fun c23 => ?_)
    · first | (exfalso; omega; done) | exact hex K h1 _ hK hB hQ hP hM hX hF
    · refine q_lload_n (pc' := 27) (dk_at dkX5_leastCost 16 rfl) rfl rfl ?_
      refine q_aload_n (pc' := 28) (dk_at dkX5_leastCost 17 rfl) rfl rfl ?_
      refine q_aload_n (pc' := 29) (dk_at dkX5_leastCost 18 rfl) rfl rfl ?_
      refine q_iload (pc' := 31) (dk_at dkX5_leastCost 19 rfl) rfl rfl ?_
      refine q_iload_n (pc' := 32) (dk_at dkX5_leastCost 20 rfl) rfl rfl ?_
      refine r_cVJ (pc' := 35) (As := [vR q, vI (rule : Int), vI fi]) (S := [vJ K]) cv_RX5_148 (dk_at dkX5_leastCost 21 rfl) hB.obj rfl (k_BM_costOfRule2 (d := 5) (rule := rule) (by omega) hk (by omega) ha hbq hB hQ hP hM) (by omega) (Nat.zero_le _) (Nat.zero_le _) rfl (Nat.le_of_ble_eq_true rfl) rfl (Nat.le_of_ble_eq_true rfl) rfl (fun xx1 hh2 hphh2 => ?_)
      obtain ⟨hxr, hB, hQ, hP, hM, hGf⟩ := hphh2
      have hX := hX.frm hGf (by omega)
      have hF := hF.tr hGf (by omega)
      refine q_lmin (pc' := 38) jk_RX5_273 (dk_at dkX5_leastCost 22 rfl) (by omega) (by omega) (by omega) (Nat.zero_le _) (Nat.zero_le _) (Nat.le_of_ble_eq_true rfl) rfl ?_
      refine q_lstore_n (pc' := 39) (L' := [some (vR b), some (vR q), some (vI fi), some (vJ (min K xx1)), none, some (vI (rule : Int))]) (dk_at dkX5_leastCost 23 rfl) (by decide) rfl rfl ?_
      refine q_iinc (pc' := 42) (L' := [some (vR b), some (vR q), some (vI fi), some (vJ (min K xx1)), none, some (vI ((rule : Int) + 1))]) (dk_at dkX5_leastCost 24 rfl) (by decide) rfl rfl rfl ?_
      rw [show ((rule : Int) + 1) = ((rule + 1 : Nat) : Int) by omega]
      refine q_goto (tgt := 20) (dk_at dkX5_leastCost 25 rfl) rfl ?_
      exact ih (rule + 1) _ _ (by omega) ⟨by omega, by omega, fun h0 => by have y1 := hK.2.2 h0; have y2 := hxr.2.2 h0; omega⟩ hB hQ hP hM hX hF

set_option maxHeartbeats 4000000 in
set_option maxRecDepth 100000 in
theorem k_BM_leastCost {d n : Nat} {h : PH} {b q : Nat} {S : Shp} {sv tl fi : Int} {tx : Nat → Int} (hd : 13 ≤ d) (hk : Sok S) (ha : fi = -1 ∨ (0 ≤ fi ∧ fi < (S.cnt : Int))) (hbq : q + 13 ≤ b + 88 ∨ b + 105 ≤ q) (hbq2 : q + 13 ≤ b + 118 ∨ b + 149 ≤ q) (hB : isBM n h b sv tx tl) (hQ : isShp n h q S) (hP : DrP n h (b + 88)) (hM : TmP n h (b + 91)) (hX : SxP n h (b + 118)) : CtrJ mX5_leastCost d [vR b, vR q, vI fi] n h (fun x h' => x = (if S.cnt = 0 then 0 else fnS S fi) ∧ isBM n h' b sv tx tl ∧ isShp n h' q S ∧ DrP n h' (b + 88) ∧ TmP n h' (b + 91) ∧ SxP n h' (b + 118) ∧ ∃ hm, Fr h hm (b + 88) (b + 105) ∧ Fr hm h' (b + 118) (b + 149)) := by
  have hc8 := hk.c
  have hINF : INF = 1000000000000000 := rfl
  have hF : Fr h h (b + 88) (b + 105) := Fr.rf
  refine q_beginJ (L := [some (vR b), some (vR q), some (vI fi), none, none, none]) rfl ?_
  refine q_aload_n (pc' := 1) (dk_at dkX5_leastCost 0 rfl) rfl rfl ?_
  refine r_getf (pc' := 4) fl_RX5_66 (dk_at dkX5_leastCost 1 rfl) hQ.obj rfl rfl ?_
  refine q_if_ne (tgt := 9) (pc' := 7) (dk_at dkX5_leastCost 2 rfl) rfl rfl (by omega) (fun c4 => ?_) (fun c4 => ?_)
  · refine q_aload_n (pc' := 10) (dk_at dkX5_leastCost 5 rfl) rfl rfl ?_
    refine q_aload_n (pc' := 11) (dk_at dkX5_leastCost 6 rfl) rfl rfl ?_
    refine q_iconst (pc' := 12) (dk_at dkX5_leastCost 7 rfl) rfl ?_
    refine q_iload_n (pc' := 13) (dk_at dkX5_leastCost 8 rfl) rfl rfl ?_
    refine r_cVJ (pc' := 16) (As := [vR q, vI 0, vI fi]) (S := []) cv_RX5_148 (dk_at dkX5_leastCost 9 rfl) hB.obj rfl (k_BM_costOfRule2 (d := 5) (rule := 0) (by omega) hk (by omega) ha hbq hB hQ hP hM) (by omega) (Nat.zero_le _) (Nat.zero_le _) rfl (Nat.le_of_ble_eq_true rfl) rfl (Nat.le_of_ble_eq_true rfl) rfl (fun xx1 hh2 hphh2 => ?_)
    obtain ⟨hxr, hB, hQ, hP, hM, hGf⟩ := hphh2
    have hX := hX.frm hGf (by omega)
    have hF := hF.tr hGf (by omega)
    refine q_lstore_n (pc' := 17) (L' := [some (vR b), some (vR q), some (vI fi), some (vJ xx1), none, none]) (dk_at dkX5_leastCost 10 rfl) (by decide) rfl rfl ?_
    refine q_iconst (pc' := 18) (dk_at dkX5_leastCost 11 rfl) rfl ?_
    refine q_istore (pc' := 20) (L' := [some (vR b), some (vR q), some (vI fi), some (vJ xx1), none, some (vI 1)]) (dk_at dkX5_leastCost 12 rfl) (by decide) rfl rfl ?_
    refine l_least (h := h) hd hk ha hk.c hbq ?_ 3 1 _ _ (by omega) hxr hB hQ hP hM hX hF
    intro K h1 r hK hB hQ hP hM hX hF
    obtain ⟨S0, fc0, fo0, hX0⟩ := hX
    obtain ⟨al, fi0, bs, fl, sc, st, fa, re, wo, lg, rk, ch, sC, sT, sX, G, hX, -⟩ := id hX0
    refine q_aload_n (pc' := 46) (dk_at dkX5_leastCost 26 rfl) rfl rfl ?_
    refine r_getf (pc' := 49) fl_RX5_48 (dk_at dkX5_leastCost 27 rfl) hB.obj rfl rfl ?_
    refine q_aload_n (pc' := 50) (dk_at dkX5_leastCost 28 rfl) rfl rfl ?_
    refine q_iload_n (pc' := 51) (dk_at dkX5_leastCost 29 rfl) rfl rfl ?_
    refine q_lload_n (pc' := 52) (dk_at dkX5_leastCost 30 rfl) rfl rfl ?_
    refine q_ldc2 (pc' := 55) (z := -1000000000000) kc_RX5_275 (by decide +kernel) (dk_at dkX5_leastCost 31 rfl) rfl ?_
    refine r_cVJ (pc' := 58) (As := [vR q, vI fi, vJ K, vJ (-1000000000000)]) (S := []) cv_RX5_156 (dk_at dkX5_leastCost 32 rfl) hX.obj rfl (k_Search_run (d := 12) (by omega) hk (by omega) (by omega) (by omega) (by omega) (fun _ => fnS_ge hk fi) hX0 hQ) (by omega) (Nat.zero_le _) (Nat.zero_le _) rfl (Nat.le_of_ble_eq_true rfl) rfl (Nat.le_of_ble_eq_true rfl) rfl (fun xx3 hh4 hphh4 => ?_)
    obtain ⟨hx, fc1, fo1, hX1, -, hGf⟩ := hphh4
    have hB := isBM.frm hB hGf (by omega)
    have hQ := isShop.frm hQ hGf (by omega)
    have hP := hP.frm hGf (by omega)
    have hM := hM.frm hGf (by omega)
    refine r_lret rfl (dk_at dkX5_leastCost 33 rfl) ?_
    refine ⟨?_, hB, hQ, hP, hM, ⟨S, _, _, hX1⟩, h1, hF, hGf⟩
    have y := hK.2.2 (by omega)
    rw [if_neg (by omega)]
    rw [if_neg (by omega)] at hx
    omega
  · refine q_lconst0 (pc' := 8) (dk_at dkX5_leastCost 3 rfl) rfl ?_
    refine r_lret rfl (dk_at dkX5_leastCost 4 rfl) ?_
    exact ⟨by rw [if_pos (by omega)], hB, hQ, hP, hM, hX, h, Fr.rf, Fr.rf⟩
