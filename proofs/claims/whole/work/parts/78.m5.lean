/-! BatchMachineModel: the kept schedule, marks, batches -/
set_option maxHeartbeats 4000000 in
set_option maxRecDepth 100000 in
theorem l_tk {d n : Nat} {h : PH} {m : Nat} {P : PlS} {A sd ss es bo su se tx ba le fr un sF sR sT ad : Nat → Int} {sm th bm tl nf ne nc : Int} (hp8 : P.sz ≤ 8) (hP : MP A P) : ∀ (c : Nat) (k : Nat) (sq1 op1 : Nat → Int) (h1 : PH), (k + c = P.sz) → (∀ q, q < k → sq1 q = A (65 + q) ∧ op1 q = A (73 + q)) → (isModel n h1 m A sd sm th sq1 op1 (P.sz : Int) ss es bo su se bm tx tl ba le fr un nf ne nc sF sR sT ad) → (Fr h h1 m (m + 19)) → QN mX6_takesKept d (FV n (fun h' => ∃ sq1 op1, isModel n h' m A sd sm th sq1 op1 (P.sz : Int) ss es bo su se bm tx tl ba le fr un nf ne nc sF sR sT ad ∧ SqP sq1 op1 P ∧ Fr h h' m (m + 19))) 13 [some (vR m), some (vI (k : Int))] [] n h1 := by
  intro c
  induction c with
  | zero =>
    intro k sq1 op1 h1 hc hq hM hF
    refine q_iload_n (pc' := 14) (dk_at dkX6_takesKept 8 rfl) rfl rfl ?_
    refine q_aload_n (pc' := 15) (dk_at dkX6_takesKept 9 rfl) rfl rfl ?_
    refine r_getf (pc' := 18) fl_RX6_119 (dk_at dkX6_takesKept 10 rfl) hM.obj rfl rfl ?_
    refine q_icmp_ge (tgt := 57) (pc' := 21) (dk_at dkX6_takesKept 11 rfl) rfl rfl (by omega) (by omega) (fun c18 => ?_) (fun c18 => ?_)
    · refine r_vret rfl (dk_at dkX6_takesKept 34 rfl) ?_
      have ek : k = P.sz := by omega
      rw [ek] at hq
      exact ⟨sq1, op1, hM, ⟨fun q hq1 => by rw [(hq q hq1).1]; exact hP.2.1 q hq1, fun q hq1 => by rw [(hq q hq1).2]; exact hP.2.2 q hq1⟩, hF⟩
    · exfalso
      omega
  | succ c ih =>
    intro k sq1 op1 h1 hc hq hM hF
    refine q_iload_n (pc' := 14) (dk_at dkX6_takesKept 8 rfl) rfl rfl ?_
    refine q_aload_n (pc' := 15) (dk_at dkX6_takesKept 9 rfl) rfl rfl ?_
    refine r_getf (pc' := 18) fl_RX6_119 (dk_at dkX6_takesKept 10 rfl) hM.obj rfl rfl ?_
    refine q_icmp_ge (tgt := 57) (pc' := 21) (dk_at dkX6_takesKept 11 rfl) rfl rfl (by omega) (by omega) (fun c18 => ?_) (fun c18 => ?_)
    · refine r_vret rfl (dk_at dkX6_takesKept 34 rfl) ?_
      have ek : k = P.sz := by omega
      rw [ek] at hq
      exact ⟨sq1, op1, hM, ⟨fun q hq1 => by rw [(hq q hq1).1]; exact hP.2.1 q hq1, fun q hq1 => by rw [(hq q hq1).2]; exact hP.2.2 q hq1⟩, hF⟩
    · refine q_aload_n (pc' := 22) (dk_at dkX6_takesKept 12 rfl) rfl rfl ?_
      refine r_getf (pc' := 25) fl_RX6_16 (dk_at dkX6_takesKept 13 rfl) hM.obj rfl rfl ?_
      refine q_iload_n (pc' := 26) (dk_at dkX6_takesKept 14 rfl) rfl rfl ?_
      refine q_aload_n (pc' := 27) (dk_at dkX6_takesKept 15 rfl) rfl rfl ?_
      refine r_getf (pc' := 30) fl_RX6_7 (dk_at dkX6_takesKept 16 rfl) hM.obj rfl rfl ?_
      refine q_bipush (pc' := 32) (dk_at dkX6_takesKept 17 rfl) (by decide +kernel) rfl ?_
      refine q_iload_n (pc' := 33) (dk_at dkX6_takesKept 18 rfl) rfl rfl ?_
      refine q_iadd (pc' := 34) (dk_at dkX6_takesKept 19 rfl) rfl ?_
      refine r_iald (pc' := 35) (dk_at dkX6_takesKept 20 rfl) hM.all (65 + k) (by omega) (by omega) (by decide) rfl ?_
      refine r_iast (pc' := 36) (dk_at dkX6_takesKept 21 rfl) hM.sequence k (by omega) (by omega) (by decide) rfl (fun hh1 ehh1 => ?_)
      have hM := hM.w_sequence ehh1
      have hF := hF.put ehh1 (by omega)
      refine q_aload_n (pc' := 37) (dk_at dkX6_takesKept 22 rfl) rfl rfl ?_
      refine r_getf (pc' := 40) fl_RX6_19 (dk_at dkX6_takesKept 23 rfl) hM.obj rfl rfl ?_
      refine q_iload_n (pc' := 41) (dk_at dkX6_takesKept 24 rfl) rfl rfl ?_
      refine q_aload_n (pc' := 42) (dk_at dkX6_takesKept 25 rfl) rfl rfl ?_
      refine r_getf (pc' := 45) fl_RX6_7 (dk_at dkX6_takesKept 26 rfl) hM.obj rfl rfl ?_
      refine q_bipush (pc' := 47) (dk_at dkX6_takesKept 27 rfl) (by decide +kernel) rfl ?_
      refine q_iload_n (pc' := 48) (dk_at dkX6_takesKept 28 rfl) rfl rfl ?_
      refine q_iadd (pc' := 49) (dk_at dkX6_takesKept 29 rfl) rfl ?_
      refine r_iald (pc' := 50) (dk_at dkX6_takesKept 30 rfl) hM.all (73 + k) (by omega) (by omega) (by decide) rfl ?_
      refine r_iast (pc' := 51) (dk_at dkX6_takesKept 31 rfl) hM.opens k (by omega) (by omega) (by decide) rfl (fun hh2 ehh2 => ?_)
      have hM := hM.w_opens ehh2
      have hF := hF.put ehh2 (by omega)
      refine q_iinc (pc' := 54) (L' := [some (vR m), some (vI ((k : Int) + 1))]) (dk_at dkX6_takesKept 32 rfl) (by decide) rfl rfl rfl ?_
      rw [show ((k : Int) + 1) = ((k + 1 : Nat) : Int) by omega]
      refine q_goto (tgt := 13) (dk_at dkX6_takesKept 33 rfl) rfl ?_
      refine ih (k + 1) _ _ _ (by omega) (fun q hq1 => ?_) hM hF
      by_cases z : q = k
      · rw [z, upz_eq, upz_eq]; exact ⟨rfl, rfl⟩
      · rw [upz_ne z, upz_ne z]; exact hq q (by omega)

set_option maxHeartbeats 4000000 in
set_option maxRecDepth 100000 in
theorem k_M_takesKept {d n : Nat} {h : PH} {m : Nat} {A sd sq op ss es bo su se tx ba le fr un sF sR sT ad : Nat → Int} {sm th l0 bm tl nf ne nc : Int} {P : PlS} (hp8 : P.sz ≤ 8) (hP : MP A P) (hM : isModel n h m A sd sm th sq op l0 ss es bo su se bm tx tl ba le fr un nf ne nc sF sR sT ad) : CtrV mX6_takesKept d [vR m] n h (fun h' => ∃ sq1 op1, isModel n h' m A sd sm th sq1 op1 (P.sz : Int) ss es bo su se bm tx tl ba le fr un nf ne nc sF sR sT ad ∧ SqP sq1 op1 P ∧ Fr h h' m (m + 19)) := by
  have hF : Fr h h m (m + 19) := Fr.rf
  refine q_beginV (L := [some (vR m), none]) rfl ?_
  refine q_aload_n (pc' := 1) (dk_at dkX6_takesKept 0 rfl) rfl rfl ?_
  refine q_aload_n (pc' := 2) (dk_at dkX6_takesKept 1 rfl) rfl rfl ?_
  refine r_getf (pc' := 5) fl_RX6_7 (dk_at dkX6_takesKept 2 rfl) hM.obj rfl rfl ?_
  refine q_bipush (pc' := 7) (dk_at dkX6_takesKept 3 rfl) (by decide +kernel) rfl ?_
  refine r_iald (pc' := 8) (dk_at dkX6_takesKept 4 rfl) hM.all 64 (by omega) (by omega) (by decide) rfl ?_
  rw [hP.1]
  refine r_putf (pc' := 11) fp_RX6_119 (dk_at dkX6_takesKept 5 rfl) hM.obj (Nat.le_of_ble_eq_true rfl) (PT_int _) rfl (fun hh1 ehh1 => ?_)
  have hM := hM.w_obj ehh1
  have hF := hF.put ehh1 (by omega)
  refine q_iconst (pc' := 12) (dk_at dkX6_takesKept 6 rfl) rfl ?_
  refine q_istore_n (pc' := 13) (L' := [some (vR m), some (vI 0)]) (dk_at dkX6_takesKept 7 rfl) (by decide) rfl rfl ?_
  exact l_tk (h := h) hp8 hP P.sz 0 sq op _ (by omega) (fun q hq => absurd hq (Nat.not_lt_zero _)) hM hF

set_option maxHeartbeats 4000000 in
set_option maxRecDepth 100000 in
theorem l_kp {d n : Nat} {h : PH} {m : Nat} {P : PlS} {A sd sq op ss es bo su se tx ba le fr un sF sR sT ad : Nat → Int} {sm th bm tl nf ne nc : Int} (hp8 : P.sz ≤ 8) (hS : SqP sq op P) : ∀ (c : Nat) (k : Nat) (A1 : Nat → Int) (h1 : PH), (k + c = P.sz) → ((∀ q, q < 64 → A1 q = A q) ∧ A1 64 = (P.sz : Int) ∧ ∀ q, q < k → A1 (65 + q) = sq q ∧ A1 (73 + q) = op q) → (isModel n h1 m A1 sd sm th sq op (P.sz : Int) ss es bo su se bm tx tl ba le fr un nf ne nc sF sR sT ad) → (Fr h h1 m (m + 19)) → QN mX6_keepsIt d (FV n (fun h' => ∃ A1, isModel n h' m A1 sd sm th sq op (P.sz : Int) ss es bo su se bm tx tl ba le fr un nf ne nc sF sR sT ad ∧ (∀ q, q < 64 → A1 q = A q) ∧ MP A1 P ∧ Fr h h' m (m + 19))) 13 [some (vR m), some (vI (k : Int))] [] n h1 := by
  intro c
  induction c with
  | zero =>
    intro k A1 h1 hc hq hM hF
    refine q_iload_n (pc' := 14) (dk_at dkX6_keepsIt 8 rfl) rfl rfl ?_
    refine q_aload_n (pc' := 15) (dk_at dkX6_keepsIt 9 rfl) rfl rfl ?_
    refine r_getf (pc' := 18) fl_RX6_119 (dk_at dkX6_keepsIt 10 rfl) hM.obj rfl rfl ?_
    refine q_icmp_ge (tgt := 57) (pc' := 21) (dk_at dkX6_keepsIt 11 rfl) rfl rfl (by omega) (by omega) (fun c18 => ?_) (fun c18 => ?_)
    · refine r_vret rfl (dk_at dkX6_keepsIt 34 rfl) ?_
      have ek : k = P.sz := by omega
      rw [ek] at hq
      exact ⟨A1, hM, hq.1, ⟨hq.2.1, fun q hq1 => by show A1 (65 + q) = _; rw [(hq.2.2 q hq1).1]; exact hS.1 q hq1, fun q hq1 => by show YN (A1 (73 + q)) _; rw [(hq.2.2 q hq1).2]; exact hS.2 q hq1⟩, hF⟩
    · exfalso
      omega
  | succ c ih =>
    intro k A1 h1 hc hq hM hF
    refine q_iload_n (pc' := 14) (dk_at dkX6_keepsIt 8 rfl) rfl rfl ?_
    refine q_aload_n (pc' := 15) (dk_at dkX6_keepsIt 9 rfl) rfl rfl ?_
    refine r_getf (pc' := 18) fl_RX6_119 (dk_at dkX6_keepsIt 10 rfl) hM.obj rfl rfl ?_
    refine q_icmp_ge (tgt := 57) (pc' := 21) (dk_at dkX6_keepsIt 11 rfl) rfl rfl (by omega) (by omega) (fun c18 => ?_) (fun c18 => ?_)
    · refine r_vret rfl (dk_at dkX6_keepsIt 34 rfl) ?_
      have ek : k = P.sz := by omega
      rw [ek] at hq
      exact ⟨A1, hM, hq.1, ⟨hq.2.1, fun q hq1 => by show A1 (65 + q) = _; rw [(hq.2.2 q hq1).1]; exact hS.1 q hq1, fun q hq1 => by show YN (A1 (73 + q)) _; rw [(hq.2.2 q hq1).2]; exact hS.2 q hq1⟩, hF⟩
    · refine q_aload_n (pc' := 22) (dk_at dkX6_keepsIt 12 rfl) rfl rfl ?_
      refine r_getf (pc' := 25) fl_RX6_7 (dk_at dkX6_keepsIt 13 rfl) hM.obj rfl rfl ?_
      refine q_bipush (pc' := 27) (dk_at dkX6_keepsIt 14 rfl) (by decide +kernel) rfl ?_
      refine q_iload_n (pc' := 28) (dk_at dkX6_keepsIt 15 rfl) rfl rfl ?_
      refine q_iadd (pc' := 29) (dk_at dkX6_keepsIt 16 rfl) rfl ?_
      refine q_aload_n (pc' := 30) (dk_at dkX6_keepsIt 17 rfl) rfl rfl ?_
      refine r_getf (pc' := 33) fl_RX6_16 (dk_at dkX6_keepsIt 18 rfl) hM.obj rfl rfl ?_
      refine q_iload_n (pc' := 34) (dk_at dkX6_keepsIt 19 rfl) rfl rfl ?_
      refine r_iald (pc' := 35) (dk_at dkX6_keepsIt 20 rfl) hM.sequence k (by omega) (by omega) (by decide) rfl ?_
      refine r_iast (pc' := 36) (dk_at dkX6_keepsIt 21 rfl) hM.all (65 + k) (by omega) (by omega) (by decide) rfl (fun hh1 ehh1 => ?_)
      have hM := hM.w_all ehh1
      have hF := hF.put ehh1 (by omega)
      refine q_aload_n (pc' := 37) (dk_at dkX6_keepsIt 22 rfl) rfl rfl ?_
      refine r_getf (pc' := 40) fl_RX6_7 (dk_at dkX6_keepsIt 23 rfl) hM.obj rfl rfl ?_
      refine q_bipush (pc' := 42) (dk_at dkX6_keepsIt 24 rfl) (by decide +kernel) rfl ?_
      refine q_iload_n (pc' := 43) (dk_at dkX6_keepsIt 25 rfl) rfl rfl ?_
      refine q_iadd (pc' := 44) (dk_at dkX6_keepsIt 26 rfl) rfl ?_
      refine q_aload_n (pc' := 45) (dk_at dkX6_keepsIt 27 rfl) rfl rfl ?_
      refine r_getf (pc' := 48) fl_RX6_19 (dk_at dkX6_keepsIt 28 rfl) hM.obj rfl rfl ?_
      refine q_iload_n (pc' := 49) (dk_at dkX6_keepsIt 29 rfl) rfl rfl ?_
      refine r_iald (pc' := 50) (dk_at dkX6_keepsIt 30 rfl) hM.opens k (by omega) (by omega) (by decide) rfl ?_
      refine r_iast (pc' := 51) (dk_at dkX6_keepsIt 31 rfl) hM.all (73 + k) (by omega) (by omega) (by decide) rfl (fun hh2 ehh2 => ?_)
      have hM := hM.w_all ehh2
      have hF := hF.put ehh2 (by omega)
      refine q_iinc (pc' := 54) (L' := [some (vR m), some (vI ((k : Int) + 1))]) (dk_at dkX6_keepsIt 32 rfl) (by decide) rfl rfl rfl ?_
      rw [show ((k : Int) + 1) = ((k + 1 : Nat) : Int) by omega]
      refine q_goto (tgt := 13) (dk_at dkX6_keepsIt 33 rfl) rfl ?_
      refine ih (k + 1) _ _ (by omega) ⟨fun q hq1 => by rw [upz_ne (by omega), upz_ne (by omega)]; exact hq.1 q hq1, by rw [upz_ne (by omega), upz_ne (by omega)]; exact hq.2.1, fun q hq1 => ?_⟩ hM hF
      by_cases z : q = k
      · rw [z, upz_ne (by omega), upz_eq, upz_eq]; exact ⟨rfl, rfl⟩
      · rw [upz_ne (by omega), upz_ne (by omega), upz_ne (by omega), upz_ne (by omega)]; exact hq.2.2 q (by omega)

set_option maxHeartbeats 4000000 in
set_option maxRecDepth 100000 in
theorem k_M_keepsIt {d n : Nat} {h : PH} {m : Nat} {A sd sq op ss es bo su se tx ba le fr un sF sR sT ad : Nat → Int} {sm th bm tl nf ne nc : Int} {P : PlS} (hp8 : P.sz ≤ 8) (hS : SqP sq op P) (hM : isModel n h m A sd sm th sq op (P.sz : Int) ss es bo su se bm tx tl ba le fr un nf ne nc sF sR sT ad) : CtrV mX6_keepsIt d [vR m] n h (fun h' => ∃ A1, isModel n h' m A1 sd sm th sq op (P.sz : Int) ss es bo su se bm tx tl ba le fr un nf ne nc sF sR sT ad ∧ (∀ q, q < 64 → A1 q = A q) ∧ MP A1 P ∧ Fr h h' m (m + 19)) := by
  have hF : Fr h h m (m + 19) := Fr.rf
  refine q_beginV (L := [some (vR m), none]) rfl ?_
  refine q_aload_n (pc' := 1) (dk_at dkX6_keepsIt 0 rfl) rfl rfl ?_
  refine r_getf (pc' := 4) fl_RX6_7 (dk_at dkX6_keepsIt 1 rfl) hM.obj rfl rfl ?_
  refine q_bipush (pc' := 6) (dk_at dkX6_keepsIt 2 rfl) (by decide +kernel) rfl ?_
  refine q_aload_n (pc' := 7) (dk_at dkX6_keepsIt 3 rfl) rfl rfl ?_
  refine r_getf (pc' := 10) fl_RX6_119 (dk_at dkX6_keepsIt 4 rfl) hM.obj rfl rfl ?_
  refine r_iast (pc' := 11) (dk_at dkX6_keepsIt 5 rfl) hM.all 64 (by omega) (by omega) (by decide) rfl (fun hh1 ehh1 => ?_)
  have hM := hM.w_all ehh1
  have hF := hF.put ehh1 (by omega)
  refine q_iconst (pc' := 12) (dk_at dkX6_keepsIt 6 rfl) rfl ?_
  refine q_istore_n (pc' := 13) (L' := [some (vR m), some (vI 0)]) (dk_at dkX6_keepsIt 7 rfl) (by decide) rfl rfl ?_
  exact l_kp (h := h) hp8 hS P.sz 0 _ _ (by omega) ⟨fun q hq => upz_ne (by omega), upz_eq _ _ _, fun q hq => absurd hq (Nat.not_lt_zero _)⟩ hM hF

set_option maxHeartbeats 4000000 in
set_option maxRecDepth 100000 in
theorem l_obf {d n : Nat} {h : PH} {m : Nat} {mm : Nat} {S : Shp} {o : Nat → Int} {A sd sq ss es bo su se tx ba le fr un sF sR sT ad : Nat → Int} {sm th bm tl nf ne nc : Int} (hd : 1 ≤ d) (hR : MR A S) (hk : Sok S) (hc8 : S.cnt ≤ 8) (hm8 : mm ≤ 8) (hsj : ∀ k, k < mm → jb o k < S.cnt ∧ sq k = (jb o k : Int)) : ∀ (c : Nat) (k : Nat) (op1 : Nat → Int) (h1 : PH), (k + c = mm) → (∀ q, q < k → YN (op1 q) (q = 0 ∨ fmG S o q ≠ fmG S o (q - 1))) → (isModel n h1 m A sd sm th sq op1 (mm : Int) ss es bo su se bm tx tl ba le fr un nf ne nc sF sR sT ad) → (Fr h h1 m (m + 19)) → QN mX6_opensByFamilies d (FV n (fun h' => ∃ op1, isModel n h' m A sd sm th sq op1 (mm : Int) ss es bo su se bm tx tl ba le fr un nf ne nc sF sR sT ad ∧ (∀ k, k < mm → YN (op1 k) (k = 0 ∨ fmG S o k ≠ fmG S o (k - 1))) ∧ Fr h h' m (m + 19))) 2 [some (vR m), some (vI (k : Int))] [] n h1 := by
  intro c
  induction c with
  | zero =>
    intro k op1 h1 hc hq hM hF
    refine q_iload_n (pc' := 3) (dk_at dkX6_opensByFamilies 2 rfl) rfl rfl ?_
    refine q_aload_n (pc' := 4) (dk_at dkX6_opensByFamilies 3 rfl) rfl rfl ?_
    refine r_getf (pc' := 7) fl_RX6_119 (dk_at dkX6_opensByFamilies 4 rfl) hM.obj rfl rfl ?_
    refine q_icmp_ge (tgt := 58) (pc' := 10) (dk_at dkX6_opensByFamilies 5 rfl) rfl rfl (by omega) (by omega) (fun c7 => ?_) (fun c7 => ?_)
    · refine r_vret rfl (dk_at dkX6_opensByFamilies 34 rfl) ?_
      have ek : k = mm := by omega
      rw [ek] at hq
      exact ⟨op1, hM, hq, hF⟩
    · exfalso
      omega
  | succ c ih =>
    intro k op1 h1 hc hq hM hF
    refine q_iload_n (pc' := 3) (dk_at dkX6_opensByFamilies 2 rfl) rfl rfl ?_
    refine q_aload_n (pc' := 4) (dk_at dkX6_opensByFamilies 3 rfl) rfl rfl ?_
    refine r_getf (pc' := 7) fl_RX6_119 (dk_at dkX6_opensByFamilies 4 rfl) hM.obj rfl rfl ?_
    refine q_icmp_ge (tgt := 58) (pc' := 10) (dk_at dkX6_opensByFamilies 5 rfl) rfl rfl (by omega) (by omega) (fun c7 => ?_) (fun c7 => ?_)
    · refine r_vret rfl (dk_at dkX6_opensByFamilies 34 rfl) ?_
      have ek : k = mm := by omega
      rw [ek] at hq
      exact ⟨op1, hM, hq, hF⟩
    · refine q_aload_n (pc' := 11) (dk_at dkX6_opensByFamilies 6 rfl) rfl rfl ?_
      refine r_getf (pc' := 14) fl_RX6_19 (dk_at dkX6_opensByFamilies 7 rfl) hM.obj rfl rfl ?_
      refine q_iload_n (pc' := 15) (dk_at dkX6_opensByFamilies 8 rfl) rfl rfl ?_
      refine q_join 51 [some (vR m), some (vI (k : Int))] [vI (k : Int), vR (m + 4)] (fun jx => YN jx (k = 0 ∨ fmG S o k ≠ fmG S o (k - 1))) (fun jx51 yb => ?_) (fun J51 => ?_)
      · refine r_iast (pc' := 52) (dk_at dkX6_opensByFamilies 31 rfl) hM.opens k (by omega) (by omega) (by decide) rfl (fun hh1 ehh1 => ?_)
        have hM := hM.w_opens ehh1
        have hF := hF.put ehh1 (by omega)
        refine q_iinc (pc' := 55) (L' := [some (vR m), some (vI ((k : Int) + 1))]) (dk_at dkX6_opensByFamilies 32 rfl) (by decide) rfl rfl rfl ?_
        rw [show ((k : Int) + 1) = ((k + 1 : Nat) : Int) by omega]
        refine q_goto (tgt := 2) (dk_at dkX6_opensByFamilies 33 rfl) rfl ?_
        refine ih (k + 1) _ _ (by omega) (fun q hq1 => ?_) hM hF
        by_cases z : q = k
        · rw [z, upz_eq]; exact yb
        · rw [upz_ne z]; exact hq q (by omega)
      refine q_iload_n (pc' := 16) (dk_at dkX6_opensByFamilies 9 rfl) rfl rfl ?_
      refine q_if_eq (tgt := 46) (pc' := 19) (dk_at dkX6_opensByFamilies 10 rfl) rfl rfl (by omega) (fun c16 => ?_) (fun c16 => ?_)
      · refine q_iconst (pc' := 47) (dk_at dkX6_opensByFamilies 28 rfl) rfl ?_
        refine q_goto (tgt := 51) (dk_at dkX6_opensByFamilies 29 rfl) rfl ?_
        exact J51 _ (Or.inl ⟨rfl, Or.inl (by omega)⟩)
      · refine q_aload_n (pc' := 20) (dk_at dkX6_opensByFamilies 11 rfl) rfl rfl ?_
        refine q_aload_n (pc' := 21) (dk_at dkX6_opensByFamilies 12 rfl) rfl rfl ?_
        refine r_getf (pc' := 24) fl_RX6_16 (dk_at dkX6_opensByFamilies 13 rfl) hM.obj rfl rfl ?_
        refine q_iload_n (pc' := 25) (dk_at dkX6_opensByFamilies 14 rfl) rfl rfl ?_
        refine r_iald (pc' := 26) (dk_at dkX6_opensByFamilies 15 rfl) hM.sequence k (by omega) (by omega) (by decide) rfl ?_
        refine q_iconst (pc' := 27) (dk_at dkX6_opensByFamilies 16 rfl) rfl ?_
        have hv0 := hk.v 0 (jb o k)
        refine r_cVI (pc' := 30) (As := [vI (sq k), vI 0]) (S := [vI (k : Int), vR (m + 4)]) cv_RX6_104 (dk_at dkX6_opensByFamilies 17 rfl) hM.obj rfl (k_M_of (d := 0) (j := jb o k) (w := 0) hR hc8 (hsj k (by omega)).2 rfl (hsj k (by omega)).1 (by omega) hM) (by omega) (Nat.zero_le _) (Nat.zero_le _) rfl (Nat.le_of_ble_eq_true rfl) rfl (Nat.le_of_ble_eq_true rfl) rfl (fun xx2 hh3 hphh3 => ?_)
        obtain ⟨qq4, rfl⟩ := hphh3
        rw [qq4]
        refine q_aload_n (pc' := 31) (dk_at dkX6_opensByFamilies 18 rfl) rfl rfl ?_
        refine q_aload_n (pc' := 32) (dk_at dkX6_opensByFamilies 19 rfl) rfl rfl ?_
        refine r_getf (pc' := 35) fl_RX6_16 (dk_at dkX6_opensByFamilies 20 rfl) hM.obj rfl rfl ?_
        refine q_iload_n (pc' := 36) (dk_at dkX6_opensByFamilies 21 rfl) rfl rfl ?_
        refine q_iconst (pc' := 37) (dk_at dkX6_opensByFamilies 22 rfl) rfl ?_
        refine q_isub (pc' := 38) (dk_at dkX6_opensByFamilies 23 rfl) rfl ?_
        refine r_iald (pc' := 39) (dk_at dkX6_opensByFamilies 24 rfl) hM.sequence (k - 1) (by omega) (by omega) (by decide) rfl ?_
        refine q_iconst (pc' := 40) (dk_at dkX6_opensByFamilies 25 rfl) rfl ?_
        have hv1 := hk.v 0 (jb o (k - 1))
        refine r_cVI (pc' := 43) (As := [vI (sq (k - 1)), vI 0]) (S := [vI (S.V 0 (jb o k)), vI (k : Int), vR (m + 4)]) cv_RX6_104 (dk_at dkX6_opensByFamilies 26 rfl) hM.obj rfl (k_M_of (d := 0) (j := jb o (k - 1)) (w := 0) hR hc8 (hsj (k - 1) (by omega)).2 rfl (hsj (k - 1) (by omega)).1 (by omega) hM) (by omega) (Nat.zero_le _) (Nat.zero_le _) rfl (Nat.le_of_ble_eq_true rfl) rfl (Nat.le_of_ble_eq_true rfl) rfl (fun xx5 hh6 hphh6 => ?_)
        obtain ⟨qq7, rfl⟩ := hphh6
        rw [qq7]
        refine q_icmp_eq (tgt := 50) (pc' := 46) (dk_at dkX6_opensByFamilies 27 rfl) rfl rfl (by omega) (by omega) (fun c43 => ?_) (fun c43 => ?_)
        · refine q_iconst (pc' := 51) (dk_at dkX6_opensByFamilies 30 rfl) rfl ?_
          exact J51 _ (Or.inr ⟨rfl, fun z => z.elim (by omega) (fun y => y c43)⟩)
        · refine q_iconst (pc' := 47) (dk_at dkX6_opensByFamilies 28 rfl) rfl ?_
          refine q_goto (tgt := 51) (dk_at dkX6_opensByFamilies 29 rfl) rfl ?_
          exact J51 _ (Or.inl ⟨rfl, Or.inr c43⟩)

set_option maxHeartbeats 4000000 in
set_option maxRecDepth 100000 in
theorem k_M_opensByFamilies {d n : Nat} {h : PH} {m : Nat} {A sd sq op ss es bo su se tx ba le fr un sF sR sT ad : Nat → Int} {sm th bm tl nf ne nc : Int} {mm : Nat} {S : Shp} {o : Nat → Int} (hd : 1 ≤ d) (hR : MR A S) (hk : Sok S) (hc8 : S.cnt ≤ 8) (hm8 : mm ≤ 8) (hsj : ∀ k, k < mm → jb o k < S.cnt ∧ sq k = (jb o k : Int)) (hM : isModel n h m A sd sm th sq op (mm : Int) ss es bo su se bm tx tl ba le fr un nf ne nc sF sR sT ad) : CtrV mX6_opensByFamilies d [vR m] n h (fun h' => ∃ op1, isModel n h' m A sd sm th sq op1 (mm : Int) ss es bo su se bm tx tl ba le fr un nf ne nc sF sR sT ad ∧ (∀ k, k < mm → YN (op1 k) (k = 0 ∨ fmG S o k ≠ fmG S o (k - 1))) ∧ Fr h h' m (m + 19)) := by
  have hF : Fr h h m (m + 19) := Fr.rf
  refine q_beginV (L := [some (vR m), none]) rfl ?_
  refine q_iconst (pc' := 1) (dk_at dkX6_opensByFamilies 0 rfl) rfl ?_
  refine q_istore_n (pc' := 2) (L' := [some (vR m), some (vI 0)]) (dk_at dkX6_opensByFamilies 1 rfl) (by decide) rfl rfl ?_
  exact l_obf (h := h) hd hR hk hc8 hm8 hsj mm 0 _ _ (by omega) (fun q hq => absurd hq (Nat.not_lt_zero _)) hM hF

set_option maxHeartbeats 4000000 in
set_option maxRecDepth 100000 in
theorem l_eob {d n : Nat} {h : PH} {m : Nat} {b c8 : Nat} {P : PlS} {A sd sq op ss es bo su se tx ba le fr un sF sR sT ad : Nat → Int} {sm th bm tl nf ne nc : Int} (hp8 : P.sz ≤ 8) (hkp : Pok c8 P.od P.en P.bc P.sz) (hS : SqP sq op P) (hb : b < P.bc) (hnx : bgn P.en b < bgn P.en (b + 1) ∧ bgn P.en (b + 1) ≤ P.sz) (hM : isModel n h m A sd sm th sq op (P.sz : Int) ss es bo su se bm tx tl ba le fr un nf ne nc sF sR sT ad) : ∀ (c : Nat) (k : Nat), (k + c = P.sz) → (bgn P.en b < k) → (k ≤ bgn P.en (b + 1)) → QN mX6_endOfBatch d (FI n (fun x h' => h' = h ∧ x = ((bgn P.en (b + 1) : Nat) : Int))) 4 [some (vR m), some (vI ((bgn P.en b : Nat) : Int)), some (vI (k : Int))] [] n h := by
  intro c
  induction c with
  | zero =>
    intro k hc hk1 hk2
    refine q_iload_n (pc' := 5) (dk_at dkX6_endOfBatch 4 rfl) rfl rfl ?_
    refine q_aload_n (pc' := 6) (dk_at dkX6_endOfBatch 5 rfl) rfl rfl ?_
    refine r_getf (pc' := 9) fl_RX6_119 (dk_at dkX6_endOfBatch 6 rfl) hM.obj rfl rfl ?_
    refine q_icmp_ge (tgt := 27) (pc' := 12) (dk_at dkX6_endOfBatch 7 rfl) rfl rfl (by omega) (by omega) (fun c9 => ?_) (fun c9 => ?_)
    · refine q_iload_n (pc' := 28) (dk_at dkX6_endOfBatch 15 rfl) rfl rfl ?_
      refine r_iret rfl (dk_at dkX6_endOfBatch 16 rfl) ?_
      refine ⟨rfl, ?_⟩
      by_cases z : k = bgn P.en (b + 1)
      · rw [z]
      · exfalso
        have hyk := hS.2 k
        have hnb := no_bg hkp hb (k := k) (by omega) (by omega)
        first | omega | exact hnb ((hyk (by omega)).t (by omega))
    · exfalso
      omega
  | succ c ih =>
    intro k hc hk1 hk2
    refine q_iload_n (pc' := 5) (dk_at dkX6_endOfBatch 4 rfl) rfl rfl ?_
    refine q_aload_n (pc' := 6) (dk_at dkX6_endOfBatch 5 rfl) rfl rfl ?_
    refine r_getf (pc' := 9) fl_RX6_119 (dk_at dkX6_endOfBatch 6 rfl) hM.obj rfl rfl ?_
    refine q_icmp_ge (tgt := 27) (pc' := 12) (dk_at dkX6_endOfBatch 7 rfl) rfl rfl (by omega) (by omega) (fun c9 => ?_) (fun c9 => ?_)
    · refine q_iload_n (pc' := 28) (dk_at dkX6_endOfBatch 15 rfl) rfl rfl ?_
      refine r_iret rfl (dk_at dkX6_endOfBatch 16 rfl) ?_
      refine ⟨rfl, ?_⟩
      by_cases z : k = bgn P.en (b + 1)
      · rw [z]
      · exfalso
        have hyk := hS.2 k
        have hnb := no_bg hkp hb (k := k) (by omega) (by omega)
        first | omega | exact hnb ((hyk (by omega)).t (by omega))
    · refine q_aload_n (pc' := 13) (dk_at dkX6_endOfBatch 8 rfl) rfl rfl ?_
      refine r_getf (pc' := 16) fl_RX6_19 (dk_at dkX6_endOfBatch 9 rfl) hM.obj rfl rfl ?_
      refine q_iload_n (pc' := 17) (dk_at dkX6_endOfBatch 10 rfl) rfl rfl ?_
      have hyr := (hS.2 k (by omega)).r
      refine r_iald (pc' := 18) (dk_at dkX6_endOfBatch 11 rfl) hM.opens k (by omega) (by omega) (by decide) rfl ?_
      refine q_if_ne (tgt := 27) (pc' := 21) (dk_at dkX6_endOfBatch 12 rfl) rfl rfl (by omega) (fun c18 => ?_) (fun c18 => ?_)
      · refine q_iload_n (pc' := 28) (dk_at dkX6_endOfBatch 15 rfl) rfl rfl ?_
        refine r_iret rfl (dk_at dkX6_endOfBatch 16 rfl) ?_
        refine ⟨rfl, ?_⟩
        by_cases z : k = bgn P.en (b + 1)
        · rw [z]
        · exfalso
          have hyk := hS.2 k
          have hnb := no_bg hkp hb (k := k) (by omega) (by omega)
          first | omega | exact hnb ((hyk (by omega)).t (by omega))
      · refine q_iinc (pc' := 24) (L' := [some (vR m), some (vI ((bgn P.en b : Nat) : Int)), some (vI ((k : Int) + 1))]) (dk_at dkX6_endOfBatch 13 rfl) (by decide) rfl rfl rfl ?_
        rw [show ((k : Int) + 1) = ((k + 1 : Nat) : Int) by omega]
        refine q_goto (tgt := 4) (dk_at dkX6_endOfBatch 14 rfl) rfl ?_
        refine ih (k + 1) (by omega) (by omega) ?_
        by_cases z : k = bgn P.en (b + 1)
        · exfalso
          by_cases y : b + 1 < P.bc
          · exact (hS.2 k (by omega)).f (by omega) ⟨b + 1, y, z.symm⟩
          · have : bgn P.en (b + 1) = P.sz := by rw [show b + 1 = P.bc by omega]; exact hkp.2.2.2.2.1
            omega
        · omega

set_option maxHeartbeats 4000000 in
set_option maxRecDepth 100000 in
theorem k_M_endOfBatch {d n : Nat} {h : PH} {m : Nat} {A sd sq op ss es bo su se tx ba le fr un sF sR sT ad : Nat → Int} {sm th bm tl nf ne nc : Int} {b c8 : Nat} {P : PlS} (hkp : Pok c8 P.od P.en P.bc P.sz) (hS : SqP sq op P) (hb : b < P.bc) (hM : isModel n h m A sd sm th sq op (P.sz : Int) ss es bo su se bm tx tl ba le fr un nf ne nc sF sR sT ad) : CtrI mX6_endOfBatch d [vR m, vI ((bgn P.en b : Nat) : Int)] n h (fun x h' => h' = h ∧ x = ((bgn P.en (b + 1) : Nat) : Int)) := by
  have hp8 := hkp.1
  have hnx := hkp.nx hb
  refine q_beginI (L := [some (vR m), some (vI ((bgn P.en b : Nat) : Int)), none]) rfl ?_
  refine q_iload_n (pc' := 1) (dk_at dkX6_endOfBatch 0 rfl) rfl rfl ?_
  refine q_iconst (pc' := 2) (dk_at dkX6_endOfBatch 1 rfl) rfl ?_
  refine q_iadd (pc' := 3) (dk_at dkX6_endOfBatch 2 rfl) rfl ?_
  refine q_istore_n (pc' := 4) (L' := [some (vR m), some (vI ((bgn P.en b : Nat) : Int)), some (vI (((bgn P.en b : Nat) : Int) + 1))]) (dk_at dkX6_endOfBatch 3 rfl) (by decide) rfl rfl ?_
  rw [show (((bgn P.en b : Nat) : Int) + 1) = ((bgn P.en b + 1 : Nat) : Int) by omega]
  exact l_eob hp8 hkp hS hb ⟨hnx.1, hnx.2.1⟩ hM (P.sz - (bgn P.en b + 1)) (bgn P.en b + 1) (by omega) (by omega) (by omega)
