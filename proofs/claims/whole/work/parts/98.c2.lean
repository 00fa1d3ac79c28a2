/-! CONSTRUCTOR of the model -/
set_option maxHeartbeats 4000000 in
set_option maxRecDepth 100000 in
theorem l_mi1 {d n mc ms k0 u0 : Nat} {F : FT} {h : PH} {m : Nat} {A sd sq op ss es bo su se tx ba fr un sF sR sT ad : Nat → Int} {sm th l0 bm tl nf ne nc : Int} (hex : ∀ (le1 : Nat → Int) (h1 : PH) (x : Int), (∀ q, q < 1228800 → le1 q = 2000000000) → isModel n h1 m A sd sm th sq op l0 ss es bo su se bm tx tl ba le1 fr un nf ne nc sF sR sT ad → Fr h h1 m (m + 19) → QW mX6_init d mc ms F k0 u0 192 [some (vR m), some (vI x)] [] true n h1) : ∀ (c : Nat) (i : Nat) (le1 : Nat → Int) (h1 : PH), (i + c = 1228800) → (∀ q, q < i → le1 q = 2000000000) → (isModel n h1 m A sd sm th sq op l0 ss es bo su se bm tx tl ba le1 fr un nf ne nc sF sR sT ad) → (Fr h h1 m (m + 19)) → QW mX6_init d mc ms F k0 u0 172 [some (vR m), some (vI (i : Int))] [] true n h1 := by
  intro c
  induction c with
  | zero =>
    intro i le1 h1 hc hq hM hF
    refine q_iload_n (pc' := 173) (dk_at dkX6_init 86 rfl) rfl rfl ?_
    refine q_ldc (pc' := 175) (z := 1228800) kc_RX6_43 (by decide +kernel) (dk_at dkX6_init 87 rfl) rfl ?_
    refine q_icmp_ge (tgt := 192) (pc' := 178) (dk_at dkX6_init 88 rfl) rfl rfl (by omega) (by omega) (fun c175 => ?_) (fun c175 => ?_)
    · exact hex _ _ _ (fun q hq1 => hq q (by omega)) hM hF
    · exfalso
      omega
  | succ c ih =>
    intro i le1 h1 hc hq hM hF
    refine q_iload_n (pc' := 173) (dk_at dkX6_init 86 rfl) rfl rfl ?_
    refine q_ldc (pc' := 175) (z := 1228800) kc_RX6_43 (by decide +kernel) (dk_at dkX6_init 87 rfl) rfl ?_
    refine q_icmp_ge (tgt := 192) (pc' := 178) (dk_at dkX6_init 88 rfl) rfl rfl (by omega) (by omega) (fun c175 => ?_) (fun c175 => ?_)
    · exact hex _ _ _ (fun q hq1 => hq q (by omega)) hM hF
    · refine q_aload_n (pc' := 179) (dk_at dkX6_init 89 rfl) rfl rfl ?_
      refine r_getf (pc' := 182) fl_RX6_44 (dk_at dkX6_init 90 rfl) hM.obj rfl rfl ?_
      refine q_iload_n (pc' := 183) (dk_at dkX6_init 91 rfl) rfl rfl ?_
      refine q_ldc (pc' := 185) (z := 2000000000) kc_RX6_65 (by decide +kernel) (dk_at dkX6_init 92 rfl) rfl ?_
      refine r_iast (pc' := 186) (dk_at dkX6_init 93 rfl) hM.least i (by omega) (by omega) (by decide) rfl (fun hh1 ehh1 => ?_)
      have hM := hM.w_least ehh1
      have hF := hF.put ehh1 (by omega)
      refine q_iinc (pc' := 189) (L' := [some (vR m), some (vI ((i : Int) + 1))]) (dk_at dkX6_init 94 rfl) (by decide) rfl rfl rfl ?_
      rw [show ((i : Int) + 1) = ((i + 1 : Nat) : Int) by omega]
      refine q_goto (tgt := 172) (dk_at dkX6_init 95 rfl) rfl ?_
      refine ih (i + 1) _ _ (by omega) (fun q hq1 => ?_) hM hF
      by_cases z : q = i
      · rw [z, upz_eq]
      · rw [upz_ne z]; exact hq q (by omega)

set_option maxHeartbeats 4000000 in
set_option maxRecDepth 100000 in
theorem l_mi2 {d n mc ms k0 u0 : Nat} {F : FT} {h : PH} {m : Nat} {A sd sq op ss es bo su se tx ba le sF sR sT ad : Nat → Int} {sm th l0 bm tl nf ne nc : Int} (hex : ∀ (fr1 un1 : Nat → Int) (h1 : PH) (x : Int), (∀ q, q < 1024 → fr1 q = 1200 ∧ un1 q = -1) → isModel n h1 m A sd sm th sq op l0 ss es bo su se bm tx tl ba le fr1 un1 nf ne nc sF sR sT ad → Fr h h1 m (m + 19) → QW mX6_init d mc ms F k0 u0 223 [some (vR m), some (vI x)] [] true n h1) : ∀ (c : Nat) (i : Nat) (fr1 un1 : Nat → Int) (h1 : PH), (i + c = 1024) → (∀ q, q < i → fr1 q = 1200 ∧ un1 q = -1) → (isModel n h1 m A sd sm th sq op l0 ss es bo su se bm tx tl ba le fr1 un1 nf ne nc sF sR sT ad) → (Fr h h1 m (m + 19)) → QW mX6_init d mc ms F k0 u0 194 [some (vR m), some (vI (i : Int))] [] true n h1 := by
  intro c
  induction c with
  | zero =>
    intro i fr1 un1 h1 hc hq hM hF
    refine q_iload_n (pc' := 195) (dk_at dkX6_init 98 rfl) rfl rfl ?_
    refine q_sipush (pc' := 198) (dk_at dkX6_init 99 rfl) (by decide +kernel) rfl ?_
    refine q_icmp_ge (tgt := 223) (pc' := 201) (dk_at dkX6_init 100 rfl) rfl rfl (by omega) (by omega) (fun c198 => ?_) (fun c198 => ?_)
    · exact hex _ _ _ _ (fun q hq1 => hq q (by omega)) hM hF
    · exfalso
      omega
  | succ c ih =>
    intro i fr1 un1 h1 hc hq hM hF
    refine q_iload_n (pc' := 195) (dk_at dkX6_init 98 rfl) rfl rfl ?_
    refine q_sipush (pc' := 198) (dk_at dkX6_init 99 rfl) (by decide +kernel) rfl ?_
    refine q_icmp_ge (tgt := 223) (pc' := 201) (dk_at dkX6_init 100 rfl) rfl rfl (by omega) (by omega) (fun c198 => ?_) (fun c198 => ?_)
    · exact hex _ _ _ _ (fun q hq1 => hq q (by omega)) hM hF
    · refine q_aload_n (pc' := 202) (dk_at dkX6_init 101 rfl) rfl rfl ?_
      refine r_getf (pc' := 205) fl_RX6_47 (dk_at dkX6_init 102 rfl) hM.obj rfl rfl ?_
      refine q_iload_n (pc' := 206) (dk_at dkX6_init 103 rfl) rfl rfl ?_
      refine q_sipush (pc' := 209) (dk_at dkX6_init 104 rfl) (by decide +kernel) rfl ?_
      refine r_iast (pc' := 210) (dk_at dkX6_init 105 rfl) hM.from i (by omega) (by omega) (by decide) rfl (fun hh1 ehh1 => ?_)
      have hM := hM.w_from ehh1
      have hF := hF.put ehh1 (by omega)
      refine q_aload_n (pc' := 211) (dk_at dkX6_init 106 rfl) rfl rfl ?_
      refine r_getf (pc' := 214) fl_RX6_50 (dk_at dkX6_init 107 rfl) hM.obj rfl rfl ?_
      refine q_iload_n (pc' := 215) (dk_at dkX6_init 108 rfl) rfl rfl ?_
      refine q_iconst (pc' := 216) (dk_at dkX6_init 109 rfl) rfl ?_
      refine r_iast (pc' := 217) (dk_at dkX6_init 110 rfl) hM.until i (by omega) (by omega) (by decide) rfl (fun hh2 ehh2 => ?_)
      have hM := hM.w_until ehh2
      have hF := hF.put ehh2 (by omega)
      refine q_iinc (pc' := 220) (L' := [some (vR m), some (vI ((i : Int) + 1))]) (dk_at dkX6_init 111 rfl) (by decide) rfl rfl rfl ?_
      rw [show ((i : Int) + 1) = ((i + 1 : Nat) : Int) by omega]
      refine q_goto (tgt := 194) (dk_at dkX6_init 112 rfl) rfl ?_
      refine ih (i + 1) _ _ _ (by omega) (fun q hq1 => ?_) hM hF
      by_cases z : q = i
      · rw [z, upz_eq, upz_eq]; exact ⟨rfl, rfl⟩
      · rw [upz_ne z, upz_ne z]; exact hq q (by omega)

set_option maxHeartbeats 4000000 in
set_option maxRecDepth 100000 in
theorem k_init6 {d b : Nat} {h : PH} (e0 : h b = cO 6 [vN, vN, vI 0, vI 0, vN, vN, vI 0, vN, vN, vN, vN, vN, vI 0, vN, vI 0, vN, vN, vN, vN, vI 0, vI 0, vI 0, vN, vN, vN, vN]) (hd : 1 ≤ d) : Ctr mX6_init d 18 1232165 true [vR b] (b + 1) h (fun r n' h' => r = none ∧ n' = b + 19 ∧ MOI (b + 19) h' b 0 cs0 ∧ Bel h h' b) := by
  have hB := Bel.rf h b
  refine q_beginN (L := [some (vR b), none]) rfl ?_
  refine q_aload_n (pc' := 1) (dk_at dkX6_init 0 rfl) rfl rfl ?_
  refine q_objInit (pc' := 4) jo_RX6_1 (dk_at dkX6_init 1 rfl) (by omega) (Nat.zero_le _) rfl ?_
  refine q_aload_n (pc' := 5) (dk_at dkX6_init 2 rfl) rfl rfl ?_
  refine q_bipush (pc' := 7) (dk_at dkX6_init 3 rfl) (by decide +kernel) rfl ?_
  refine r_newI (pc' := 9) (n' := b + 2) 81 rfl (dk_at dkX6_init 4 rfl) (by decide) (by decide) (by decide) rfl (by omega) (fun h1 Eh1 => ?_)
  have e1 : h1 (b + 1) = cI 81 (fun _ => 0) := by rw [Eh1, hp_eq]
  have e0 : h1 b = cO 6 [vN, vN, vI 0, vI 0, vN, vN, vI 0, vN, vN, vN, vN, vN, vI 0, vN, vI 0, vN, vN, vN, vN, vI 0, vI 0, vI 0, vN, vN, vN, vN] := by rw [Eh1, hp_ne (by omega)]; exact e0
  have hB := hB.put Eh1 (by omega)
  refine r_putF (pc' := 12) fp_RX6_7 rfl (dk_at dkX6_init 5 rfl) ⟨by omega, e0⟩ (Nat.le_of_ble_eq_true rfl) (PT_arr _ _) rfl (fun h2 Eh2 => ?_)
  have e0 : h2 b = cO 6 [vR (b + 1), vN, vI 0, vI 0, vN, vN, vI 0, vN, vN, vN, vN, vN, vI 0, vN, vI 0, vN, vN, vN, vN, vI 0, vI 0, vI 0, vN, vN, vN, vN] := by rw [Eh2, hp_eq]; rfl
  have e1 : h2 (b + 1) = cI 81 (fun _ => 0) := by rw [Eh2, hp_ne (by omega)]; exact e1
  have hB := hB.put Eh2 (by omega)
  refine q_aload_n (pc' := 13) (dk_at dkX6_init 6 rfl) rfl rfl ?_
  refine q_sipush (pc' := 16) (dk_at dkX6_init 7 rfl) (by decide +kernel) rfl ?_
  refine r_newI (pc' := 18) (n' := b + 3) 324 rfl (dk_at dkX6_init 8 rfl) (by decide) (by decide) (by decide) rfl (by omega) (fun h3 Eh3 => ?_)
  have e2 : h3 (b + 2) = cI 324 (fun _ => 0) := by rw [Eh3, hp_eq]
  have e0 : h3 b = cO 6 [vR (b + 1), vN, vI 0, vI 0, vN, vN, vI 0, vN, vN, vN, vN, vN, vI 0, vN, vI 0, vN, vN, vN, vN, vI 0, vI 0, vI 0, vN, vN, vN, vN] := by rw [Eh3, hp_ne (by omega)]; exact e0
  have e1 : h3 (b + 1) = cI 81 (fun _ => 0) := by rw [Eh3, hp_ne (by omega)]; exact e1
  have hB := hB.put Eh3 (by omega)
  refine r_putF (pc' := 21) fp_RX6_13 rfl (dk_at dkX6_init 9 rfl) ⟨by omega, e0⟩ (Nat.le_of_ble_eq_true rfl) (PT_arr _ _) rfl (fun h4 Eh4 => ?_)
  have e0 : h4 b = cO 6 [vR (b + 1), vR (b + 2), vI 0, vI 0, vN, vN, vI 0, vN, vN, vN, vN, vN, vI 0, vN, vI 0, vN, vN, vN, vN, vI 0, vI 0, vI 0, vN, vN, vN, vN] := by rw [Eh4, hp_eq]; rfl
  have e1 : h4 (b + 1) = cI 81 (fun _ => 0) := by rw [Eh4, hp_ne (by omega)]; exact e1
  have e2 : h4 (b + 2) = cI 324 (fun _ => 0) := by rw [Eh4, hp_ne (by omega)]; exact e2
  have hB := hB.put Eh4 (by omega)
  refine q_aload_n (pc' := 22) (dk_at dkX6_init 10 rfl) rfl rfl ?_
  refine q_bipush (pc' := 24) (dk_at dkX6_init 11 rfl) (by decide +kernel) rfl ?_
  refine r_newI (pc' := 26) (n' := b + 4) 8 rfl (dk_at dkX6_init 12 rfl) (by decide) (by decide) (by decide) rfl (by omega) (fun h5 Eh5 => ?_)
  have e3 : h5 (b + 3) = cI 8 (fun _ => 0) := by rw [Eh5, hp_eq]
  have e0 : h5 b = cO 6 [vR (b + 1), vR (b + 2), vI 0, vI 0, vN, vN, vI 0, vN, vN, vN, vN, vN, vI 0, vN, vI 0, vN, vN, vN, vN, vI 0, vI 0, vI 0, vN, vN, vN, vN] := by rw [Eh5, hp_ne (by omega)]; exact e0
  have e1 : h5 (b + 1) = cI 81 (fun _ => 0) := by rw [Eh5, hp_ne (by omega)]; exact e1
  have e2 : h5 (b + 2) = cI 324 (fun _ => 0) := by rw [Eh5, hp_ne (by omega)]; exact e2
  have hB := hB.put Eh5 (by omega)
  refine r_putF (pc' := 29) fp_RX6_16 rfl (dk_at dkX6_init 13 rfl) ⟨by omega, e0⟩ (Nat.le_of_ble_eq_true rfl) (PT_arr _ _) rfl (fun h6 Eh6 => ?_)
  have e0 : h6 b = cO 6 [vR (b + 1), vR (b + 2), vI 0, vI 0, vR (b + 3), vN, vI 0, vN, vN, vN, vN, vN, vI 0, vN, vI 0, vN, vN, vN, vN, vI 0, vI 0, vI 0, vN, vN, vN, vN] := by rw [Eh6, hp_eq]; rfl
  have e1 : h6 (b + 1) = cI 81 (fun _ => 0) := by rw [Eh6, hp_ne (by omega)]; exact e1
  have e2 : h6 (b + 2) = cI 324 (fun _ => 0) := by rw [Eh6, hp_ne (by omega)]; exact e2
  have e3 : h6 (b + 3) = cI 8 (fun _ => 0) := by rw [Eh6, hp_ne (by omega)]; exact e3
  have hB := hB.put Eh6 (by omega)
  refine q_aload_n (pc' := 30) (dk_at dkX6_init 14 rfl) rfl rfl ?_
  refine q_bipush (pc' := 32) (dk_at dkX6_init 15 rfl) (by decide +kernel) rfl ?_
  refine r_newI (pc' := 34) (n' := b + 5) 8 rfl (dk_at dkX6_init 16 rfl) (by decide) (by decide) (by decide) rfl (by omega) (fun h7 Eh7 => ?_)
  have e4 : h7 (b + 4) = cI 8 (fun _ => 0) := by rw [Eh7, hp_eq]
  have e0 : h7 b = cO 6 [vR (b + 1), vR (b + 2), vI 0, vI 0, vR (b + 3), vN, vI 0, vN, vN, vN, vN, vN, vI 0, vN, vI 0, vN, vN, vN, vN, vI 0, vI 0, vI 0, vN, vN, vN, vN] := by rw [Eh7, hp_ne (by omega)]; exact e0
  have e1 : h7 (b + 1) = cI 81 (fun _ => 0) := by rw [Eh7, hp_ne (by omega)]; exact e1
  have e2 : h7 (b + 2) = cI 324 (fun _ => 0) := by rw [Eh7, hp_ne (by omega)]; exact e2
  have e3 : h7 (b + 3) = cI 8 (fun _ => 0) := by rw [Eh7, hp_ne (by omega)]; exact e3
  have hB := hB.put Eh7 (by omega)
  refine r_putF (pc' := 37) fp_RX6_19 rfl (dk_at dkX6_init 17 rfl) ⟨by omega, e0⟩ (Nat.le_of_ble_eq_true rfl) (PT_arr _ _) rfl (fun h8 Eh8 => ?_)
  have e0 : h8 b = cO 6 [vR (b + 1), vR (b + 2), vI 0, vI 0, vR (b + 3), vR (b + 4), vI 0, vN, vN, vN, vN, vN, vI 0, vN, vI 0, vN, vN, vN, vN, vI 0, vI 0, vI 0, vN, vN, vN, vN] := by rw [Eh8, hp_eq]; rfl
  have e1 : h8 (b + 1) = cI 81 (fun _ => 0) := by rw [Eh8, hp_ne (by omega)]; exact e1
  have e2 : h8 (b + 2) = cI 324 (fun _ => 0) := by rw [Eh8, hp_ne (by omega)]; exact e2
  have e3 : h8 (b + 3) = cI 8 (fun _ => 0) := by rw [Eh8, hp_ne (by omega)]; exact e3
  have e4 : h8 (b + 4) = cI 8 (fun _ => 0) := by rw [Eh8, hp_ne (by omega)]; exact e4
  have hB := hB.put Eh8 (by omega)
  refine q_aload_n (pc' := 38) (dk_at dkX6_init 18 rfl) rfl rfl ?_
  refine q_bipush (pc' := 40) (dk_at dkX6_init 19 rfl) (by decide +kernel) rfl ?_
  refine r_newI (pc' := 42) (n' := b + 6) 8 rfl (dk_at dkX6_init 20 rfl) (by decide) (by decide) (by decide) rfl (by omega) (fun h9 Eh9 => ?_)
  have e5 : h9 (b + 5) = cI 8 (fun _ => 0) := by rw [Eh9, hp_eq]
  have e0 : h9 b = cO 6 [vR (b + 1), vR (b + 2), vI 0, vI 0, vR (b + 3), vR (b + 4), vI 0, vN, vN, vN, vN, vN, vI 0, vN, vI 0, vN, vN, vN, vN, vI 0, vI 0, vI 0, vN, vN, vN, vN] := by rw [Eh9, hp_ne (by omega)]; exact e0
  have e1 : h9 (b + 1) = cI 81 (fun _ => 0) := by rw [Eh9, hp_ne (by omega)]; exact e1
  have e2 : h9 (b + 2) = cI 324 (fun _ => 0) := by rw [Eh9, hp_ne (by omega)]; exact e2
  have e3 : h9 (b + 3) = cI 8 (fun _ => 0) := by rw [Eh9, hp_ne (by omega)]; exact e3
  have e4 : h9 (b + 4) = cI 8 (fun _ => 0) := by rw [Eh9, hp_ne (by omega)]; exact e4
  have hB := hB.put Eh9 (by omega)
  refine r_putF (pc' := 45) fp_RX6_22 rfl (dk_at dkX6_init 21 rfl) ⟨by omega, e0⟩ (Nat.le_of_ble_eq_true rfl) (PT_arr _ _) rfl (fun h10 Eh10 => ?_)
  have e0 : h10 b = cO 6 [vR (b + 1), vR (b + 2), vI 0, vI 0, vR (b + 3), vR (b + 4), vI 0, vR (b + 5), vN, vN, vN, vN, vI 0, vN, vI 0, vN, vN, vN, vN, vI 0, vI 0, vI 0, vN, vN, vN, vN] := by rw [Eh10, hp_eq]; rfl
  have e1 : h10 (b + 1) = cI 81 (fun _ => 0) := by rw [Eh10, hp_ne (by omega)]; exact e1
  have e2 : h10 (b + 2) = cI 324 (fun _ => 0) := by rw [Eh10, hp_ne (by omega)]; exact e2
  have e3 : h10 (b + 3) = cI 8 (fun _ => 0) := by rw [Eh10, hp_ne (by omega)]; exact e3
  have e4 : h10 (b + 4) = cI 8 (fun _ => 0) := by rw [Eh10, hp_ne (by omega)]; exact e4
  have e5 : h10 (b + 5) = cI 8 (fun _ => 0) := by rw [Eh10, hp_ne (by omega)]; exact e5
  have hB := hB.put Eh10 (by omega)
  refine q_aload_n (pc' := 46) (dk_at dkX6_init 22 rfl) rfl rfl ?_
  refine q_bipush (pc' := 48) (dk_at dkX6_init 23 rfl) (by decide +kernel) rfl ?_
  refine r_newI (pc' := 50) (n' := b + 7) 8 rfl (dk_at dkX6_init 24 rfl) (by decide) (by decide) (by decide) rfl (by omega) (fun h11 Eh11 => ?_)
  have e6 : h11 (b + 6) = cI 8 (fun _ => 0) := by rw [Eh11, hp_eq]
  have e0 : h11 b = cO 6 [vR (b + 1), vR (b + 2), vI 0, vI 0, vR (b + 3), vR (b + 4), vI 0, vR (b + 5), vN, vN, vN, vN, vI 0, vN, vI 0, vN, vN, vN, vN, vI 0, vI 0, vI 0, vN, vN, vN, vN] := by rw [Eh11, hp_ne (by omega)]; exact e0
  have e1 : h11 (b + 1) = cI 81 (fun _ => 0) := by rw [Eh11, hp_ne (by omega)]; exact e1
  have e2 : h11 (b + 2) = cI 324 (fun _ => 0) := by rw [Eh11, hp_ne (by omega)]; exact e2
  have e3 : h11 (b + 3) = cI 8 (fun _ => 0) := by rw [Eh11, hp_ne (by omega)]; exact e3
  have e4 : h11 (b + 4) = cI 8 (fun _ => 0) := by rw [Eh11, hp_ne (by omega)]; exact e4
  have e5 : h11 (b + 5) = cI 8 (fun _ => 0) := by rw [Eh11, hp_ne (by omega)]; exact e5
  have hB := hB.put Eh11 (by omega)
  refine r_putF (pc' := 53) fp_RX6_25 rfl (dk_at dkX6_init 25 rfl) ⟨by omega, e0⟩ (Nat.le_of_ble_eq_true rfl) (PT_arr _ _) rfl (fun h12 Eh12 => ?_)
  have e0 : h12 b = cO 6 [vR (b + 1), vR (b + 2), vI 0, vI 0, vR (b + 3), vR (b + 4), vI 0, vR (b + 5), vR (b + 6), vN, vN, vN, vI 0, vN, vI 0, vN, vN, vN, vN, vI 0, vI 0, vI 0, vN, vN, vN, vN] := by rw [Eh12, hp_eq]; rfl
  have e1 : h12 (b + 1) = cI 81 (fun _ => 0) := by rw [Eh12, hp_ne (by omega)]; exact e1
  have e2 : h12 (b + 2) = cI 324 (fun _ => 0) := by rw [Eh12, hp_ne (by omega)]; exact e2
  have e3 : h12 (b + 3) = cI 8 (fun _ => 0) := by rw [Eh12, hp_ne (by omega)]; exact e3
  have e4 : h12 (b + 4) = cI 8 (fun _ => 0) := by rw [Eh12, hp_ne (by omega)]; exact e4
  have e5 : h12 (b + 5) = cI 8 (fun _ => 0) := by rw [Eh12, hp_ne (by omega)]; exact e5
  have e6 : h12 (b + 6) = cI 8 (fun _ => 0) := by rw [Eh12, hp_ne (by omega)]; exact e6
  have hB := hB.put Eh12 (by omega)
  refine q_aload_n (pc' := 54) (dk_at dkX6_init 26 rfl) rfl rfl ?_
  refine q_bipush (pc' := 56) (dk_at dkX6_init 27 rfl) (by decide +kernel) rfl ?_
  refine r_newI (pc' := 58) (n' := b + 8) 8 rfl (dk_at dkX6_init 28 rfl) (by decide) (by decide) (by decide) rfl (by omega) (fun h13 Eh13 => ?_)
  have e7 : h13 (b + 7) = cI 8 (fun _ => 0) := by rw [Eh13, hp_eq]
  have e0 : h13 b = cO 6 [vR (b + 1), vR (b + 2), vI 0, vI 0, vR (b + 3), vR (b + 4), vI 0, vR (b + 5), vR (b + 6), vN, vN, vN, vI 0, vN, vI 0, vN, vN, vN, vN, vI 0, vI 0, vI 0, vN, vN, vN, vN] := by rw [Eh13, hp_ne (by omega)]; exact e0
  have e1 : h13 (b + 1) = cI 81 (fun _ => 0) := by rw [Eh13, hp_ne (by omega)]; exact e1
  have e2 : h13 (b + 2) = cI 324 (fun _ => 0) := by rw [Eh13, hp_ne (by omega)]; exact e2
  have e3 : h13 (b + 3) = cI 8 (fun _ => 0) := by rw [Eh13, hp_ne (by omega)]; exact e3
  have e4 : h13 (b + 4) = cI 8 (fun _ => 0) := by rw [Eh13, hp_ne (by omega)]; exact e4
  have e5 : h13 (b + 5) = cI 8 (fun _ => 0) := by rw [Eh13, hp_ne (by omega)]; exact e5
  have e6 : h13 (b + 6) = cI 8 (fun _ => 0) := by rw [Eh13, hp_ne (by omega)]; exact e6
  have hB := hB.put Eh13 (by omega)
  refine r_putF (pc' := 61) fp_RX6_28 rfl (dk_at dkX6_init 29 rfl) ⟨by omega, e0⟩ (Nat.le_of_ble_eq_true rfl) (PT_arr _ _) rfl (fun h14 Eh14 => ?_)
  have e0 : h14 b = cO 6 [vR (b + 1), vR (b + 2), vI 0, vI 0, vR (b + 3), vR (b + 4), vI 0, vR (b + 5), vR (b + 6), vR (b + 7), vN, vN, vI 0, vN, vI 0, vN, vN, vN, vN, vI 0, vI 0, vI 0, vN, vN, vN, vN] := by rw [Eh14, hp_eq]; rfl
  have e1 : h14 (b + 1) = cI 81 (fun _ => 0) := by rw [Eh14, hp_ne (by omega)]; exact e1
  have e2 : h14 (b + 2) = cI 324 (fun _ => 0) := by rw [Eh14, hp_ne (by omega)]; exact e2
  have e3 : h14 (b + 3) = cI 8 (fun _ => 0) := by rw [Eh14, hp_ne (by omega)]; exact e3
  have e4 : h14 (b + 4) = cI 8 (fun _ => 0) := by rw [Eh14, hp_ne (by omega)]; exact e4
  have e5 : h14 (b + 5) = cI 8 (fun _ => 0) := by rw [Eh14, hp_ne (by omega)]; exact e5
  have e6 : h14 (b + 6) = cI 8 (fun _ => 0) := by rw [Eh14, hp_ne (by omega)]; exact e6
  have e7 : h14 (b + 7) = cI 8 (fun _ => 0) := by rw [Eh14, hp_ne (by omega)]; exact e7
  have hB := hB.put Eh14 (by omega)
  refine q_aload_n (pc' := 62) (dk_at dkX6_init 30 rfl) rfl rfl ?_
  refine q_bipush (pc' := 64) (dk_at dkX6_init 31 rfl) (by decide +kernel) rfl ?_
  refine r_newI (pc' := 66) (n' := b + 9) 8 rfl (dk_at dkX6_init 32 rfl) (by decide) (by decide) (by decide) rfl (by omega) (fun h15 Eh15 => ?_)
  have e8 : h15 (b + 8) = cI 8 (fun _ => 0) := by rw [Eh15, hp_eq]
  have e0 : h15 b = cO 6 [vR (b + 1), vR (b + 2), vI 0, vI 0, vR (b + 3), vR (b + 4), vI 0, vR (b + 5), vR (b + 6), vR (b + 7), vN, vN, vI 0, vN, vI 0, vN, vN, vN, vN, vI 0, vI 0, vI 0, vN, vN, vN, vN] := by rw [Eh15, hp_ne (by omega)]; exact e0
  have e1 : h15 (b + 1) = cI 81 (fun _ => 0) := by rw [Eh15, hp_ne (by omega)]; exact e1
  have e2 : h15 (b + 2) = cI 324 (fun _ => 0) := by rw [Eh15, hp_ne (by omega)]; exact e2
  have e3 : h15 (b + 3) = cI 8 (fun _ => 0) := by rw [Eh15, hp_ne (by omega)]; exact e3
  have e4 : h15 (b + 4) = cI 8 (fun _ => 0) := by rw [Eh15, hp_ne (by omega)]; exact e4
  have e5 : h15 (b + 5) = cI 8 (fun _ => 0) := by rw [Eh15, hp_ne (by omega)]; exact e5
  have e6 : h15 (b + 6) = cI 8 (fun _ => 0) := by rw [Eh15, hp_ne (by omega)]; exact e6
  have e7 : h15 (b + 7) = cI 8 (fun _ => 0) := by rw [Eh15, hp_ne (by omega)]; exact e7
  have hB := hB.put Eh15 (by omega)
  refine r_putF (pc' := 69) fp_RX6_31 rfl (dk_at dkX6_init 33 rfl) ⟨by omega, e0⟩ (Nat.le_of_ble_eq_true rfl) (PT_arr _ _) rfl (fun h16 Eh16 => ?_)
  have e0 : h16 b = cO 6 [vR (b + 1), vR (b + 2), vI 0, vI 0, vR (b + 3), vR (b + 4), vI 0, vR (b + 5), vR (b + 6), vR (b + 7), vR (b + 8), vN, vI 0, vN, vI 0, vN, vN, vN, vN, vI 0, vI 0, vI 0, vN, vN, vN, vN] := by rw [Eh16, hp_eq]; rfl
  have e1 : h16 (b + 1) = cI 81 (fun _ => 0) := by rw [Eh16, hp_ne (by omega)]; exact e1
  have e2 : h16 (b + 2) = cI 324 (fun _ => 0) := by rw [Eh16, hp_ne (by omega)]; exact e2
  have e3 : h16 (b + 3) = cI 8 (fun _ => 0) := by rw [Eh16, hp_ne (by omega)]; exact e3
  have e4 : h16 (b + 4) = cI 8 (fun _ => 0) := by rw [Eh16, hp_ne (by omega)]; exact e4
  have e5 : h16 (b + 5) = cI 8 (fun _ => 0) := by rw [Eh16, hp_ne (by omega)]; exact e5
  have e6 : h16 (b + 6) = cI 8 (fun _ => 0) := by rw [Eh16, hp_ne (by omega)]; exact e6
  have e7 : h16 (b + 7) = cI 8 (fun _ => 0) := by rw [Eh16, hp_ne (by omega)]; exact e7
  have e8 : h16 (b + 8) = cI 8 (fun _ => 0) := by rw [Eh16, hp_ne (by omega)]; exact e8
  have hB := hB.put Eh16 (by omega)
  refine q_aload_n (pc' := 70) (dk_at dkX6_init 34 rfl) rfl rfl ?_
  refine q_bipush (pc' := 72) (dk_at dkX6_init 35 rfl) (by decide +kernel) rfl ?_
  refine r_newI (pc' := 74) (n' := b + 10) 8 rfl (dk_at dkX6_init 36 rfl) (by decide) (by decide) (by decide) rfl (by omega) (fun h17 Eh17 => ?_)
  have e9 : h17 (b + 9) = cI 8 (fun _ => 0) := by rw [Eh17, hp_eq]
  have e0 : h17 b = cO 6 [vR (b + 1), vR (b + 2), vI 0, vI 0, vR (b + 3), vR (b + 4), vI 0, vR (b + 5), vR (b + 6), vR (b + 7), vR (b + 8), vN, vI 0, vN, vI 0, vN, vN, vN, vN, vI 0, vI 0, vI 0, vN, vN, vN, vN] := by rw [Eh17, hp_ne (by omega)]; exact e0
  have e1 : h17 (b + 1) = cI 81 (fun _ => 0) := by rw [Eh17, hp_ne (by omega)]; exact e1
  have e2 : h17 (b + 2) = cI 324 (fun _ => 0) := by rw [Eh17, hp_ne (by omega)]; exact e2
  have e3 : h17 (b + 3) = cI 8 (fun _ => 0) := by rw [Eh17, hp_ne (by omega)]; exact e3
  have e4 : h17 (b + 4) = cI 8 (fun _ => 0) := by rw [Eh17, hp_ne (by omega)]; exact e4
  have e5 : h17 (b + 5) = cI 8 (fun _ => 0) := by rw [Eh17, hp_ne (by omega)]; exact e5
  have e6 : h17 (b + 6) = cI 8 (fun _ => 0) := by rw [Eh17, hp_ne (by omega)]; exact e6
  have e7 : h17 (b + 7) = cI 8 (fun _ => 0) := by rw [Eh17, hp_ne (by omega)]; exact e7
  have e8 : h17 (b + 8) = cI 8 (fun _ => 0) := by rw [Eh17, hp_ne (by omega)]; exact e8
  have hB := hB.put Eh17 (by omega)
  refine r_putF (pc' := 77) fp_RX6_34 rfl (dk_at dkX6_init 37 rfl) ⟨by omega, e0⟩ (Nat.le_of_ble_eq_true rfl) (PT_arr _ _) rfl (fun h18 Eh18 => ?_)
  have e0 : h18 b = cO 6 [vR (b + 1), vR (b + 2), vI 0, vI 0, vR (b + 3), vR (b + 4), vI 0, vR (b + 5), vR (b + 6), vR (b + 7), vR (b + 8), vR (b + 9), vI 0, vN, vI 0, vN, vN, vN, vN, vI 0, vI 0, vI 0, vN, vN, vN, vN] := by rw [Eh18, hp_eq]; rfl
  have e1 : h18 (b + 1) = cI 81 (fun _ => 0) := by rw [Eh18, hp_ne (by omega)]; exact e1
  have e2 : h18 (b + 2) = cI 324 (fun _ => 0) := by rw [Eh18, hp_ne (by omega)]; exact e2
  have e3 : h18 (b + 3) = cI 8 (fun _ => 0) := by rw [Eh18, hp_ne (by omega)]; exact e3
  have e4 : h18 (b + 4) = cI 8 (fun _ => 0) := by rw [Eh18, hp_ne (by omega)]; exact e4
  have e5 : h18 (b + 5) = cI 8 (fun _ => 0) := by rw [Eh18, hp_ne (by omega)]; exact e5
  have e6 : h18 (b + 6) = cI 8 (fun _ => 0) := by rw [Eh18, hp_ne (by omega)]; exact e6
  have e7 : h18 (b + 7) = cI 8 (fun _ => 0) := by rw [Eh18, hp_ne (by omega)]; exact e7
  have e8 : h18 (b + 8) = cI 8 (fun _ => 0) := by rw [Eh18, hp_ne (by omega)]; exact e8
  have e9 : h18 (b + 9) = cI 8 (fun _ => 0) := by rw [Eh18, hp_ne (by omega)]; exact e9
  have hB := hB.put Eh18 (by omega)
  refine q_aload_n (pc' := 78) (dk_at dkX6_init 38 rfl) rfl rfl ?_
  refine q_bipush (pc' := 80) (dk_at dkX6_init 39 rfl) (by decide +kernel) rfl ?_
  refine r_newI (pc' := 82) (n' := b + 11) 60 rfl (dk_at dkX6_init 40 rfl) (by decide) (by decide) (by decide) rfl (by omega) (fun h19 Eh19 => ?_)
  have e10 : h19 (b + 10) = cI 60 (fun _ => 0) := by rw [Eh19, hp_eq]
  have e0 : h19 b = cO 6 [vR (b + 1), vR (b + 2), vI 0, vI 0, vR (b + 3), vR (b + 4), vI 0, vR (b + 5), vR (b + 6), vR (b + 7), vR (b + 8), vR (b + 9), vI 0, vN, vI 0, vN, vN, vN, vN, vI 0, vI 0, vI 0, vN, vN, vN, vN] := by rw [Eh19, hp_ne (by omega)]; exact e0
  have e1 : h19 (b + 1) = cI 81 (fun _ => 0) := by rw [Eh19, hp_ne (by omega)]; exact e1
  have e2 : h19 (b + 2) = cI 324 (fun _ => 0) := by rw [Eh19, hp_ne (by omega)]; exact e2
  have e3 : h19 (b + 3) = cI 8 (fun _ => 0) := by rw [Eh19, hp_ne (by omega)]; exact e3
  have e4 : h19 (b + 4) = cI 8 (fun _ => 0) := by rw [Eh19, hp_ne (by omega)]; exact e4
  have e5 : h19 (b + 5) = cI 8 (fun _ => 0) := by rw [Eh19, hp_ne (by omega)]; exact e5
  have e6 : h19 (b + 6) = cI 8 (fun _ => 0) := by rw [Eh19, hp_ne (by omega)]; exact e6
  have e7 : h19 (b + 7) = cI 8 (fun _ => 0) := by rw [Eh19, hp_ne (by omega)]; exact e7
  have e8 : h19 (b + 8) = cI 8 (fun _ => 0) := by rw [Eh19, hp_ne (by omega)]; exact e8
  have e9 : h19 (b + 9) = cI 8 (fun _ => 0) := by rw [Eh19, hp_ne (by omega)]; exact e9
  have hB := hB.put Eh19 (by omega)
  refine r_putF (pc' := 85) fp_RX6_37 rfl (dk_at dkX6_init 41 rfl) ⟨by omega, e0⟩ (Nat.le_of_ble_eq_true rfl) (PT_arr _ _) rfl (fun h20 Eh20 => ?_)
  have e0 : h20 b = cO 6 [vR (b + 1), vR (b + 2), vI 0, vI 0, vR (b + 3), vR (b + 4), vI 0, vR (b + 5), vR (b + 6), vR (b + 7), vR (b + 8), vR (b + 9), vI 0, vR (b + 10), vI 0, vN, vN, vN, vN, vI 0, vI 0, vI 0, vN, vN, vN, vN] := by rw [Eh20, hp_eq]; rfl
  have e1 : h20 (b + 1) = cI 81 (fun _ => 0) := by rw [Eh20, hp_ne (by omega)]; exact e1
  have e2 : h20 (b + 2) = cI 324 (fun _ => 0) := by rw [Eh20, hp_ne (by omega)]; exact e2
  have e3 : h20 (b + 3) = cI 8 (fun _ => 0) := by rw [Eh20, hp_ne (by omega)]; exact e3
  have e4 : h20 (b + 4) = cI 8 (fun _ => 0) := by rw [Eh20, hp_ne (by omega)]; exact e4
  have e5 : h20 (b + 5) = cI 8 (fun _ => 0) := by rw [Eh20, hp_ne (by omega)]; exact e5
  have e6 : h20 (b + 6) = cI 8 (fun _ => 0) := by rw [Eh20, hp_ne (by omega)]; exact e6
  have e7 : h20 (b + 7) = cI 8 (fun _ => 0) := by rw [Eh20, hp_ne (by omega)]; exact e7
  have e8 : h20 (b + 8) = cI 8 (fun _ => 0) := by rw [Eh20, hp_ne (by omega)]; exact e8
  have e9 : h20 (b + 9) = cI 8 (fun _ => 0) := by rw [Eh20, hp_ne (by omega)]; exact e9
  have e10 : h20 (b + 10) = cI 60 (fun _ => 0) := by rw [Eh20, hp_ne (by omega)]; exact e10
  have hB := hB.put Eh20 (by omega)
  refine q_aload_n (pc' := 86) (dk_at dkX6_init 42 rfl) rfl rfl ?_
  refine q_bipush (pc' := 88) (dk_at dkX6_init 43 rfl) (by decide +kernel) rfl ?_
  refine r_newI (pc' := 90) (n' := b + 12) 8 rfl (dk_at dkX6_init 44 rfl) (by decide) (by decide) (by decide) rfl (by omega) (fun h21 Eh21 => ?_)
  have e11 : h21 (b + 11) = cI 8 (fun _ => 0) := by rw [Eh21, hp_eq]
  have e0 : h21 b = cO 6 [vR (b + 1), vR (b + 2), vI 0, vI 0, vR (b + 3), vR (b + 4), vI 0, vR (b + 5), vR (b + 6), vR (b + 7), vR (b + 8), vR (b + 9), vI 0, vR (b + 10), vI 0, vN, vN, vN, vN, vI 0, vI 0, vI 0, vN, vN, vN, vN] := by rw [Eh21, hp_ne (by omega)]; exact e0
  have e1 : h21 (b + 1) = cI 81 (fun _ => 0) := by rw [Eh21, hp_ne (by omega)]; exact e1
  have e2 : h21 (b + 2) = cI 324 (fun _ => 0) := by rw [Eh21, hp_ne (by omega)]; exact e2
  have e3 : h21 (b + 3) = cI 8 (fun _ => 0) := by rw [Eh21, hp_ne (by omega)]; exact e3
  have e4 : h21 (b + 4) = cI 8 (fun _ => 0) := by rw [Eh21, hp_ne (by omega)]; exact e4
  have e5 : h21 (b + 5) = cI 8 (fun _ => 0) := by rw [Eh21, hp_ne (by omega)]; exact e5
  have e6 : h21 (b + 6) = cI 8 (fun _ => 0) := by rw [Eh21, hp_ne (by omega)]; exact e6
  have e7 : h21 (b + 7) = cI 8 (fun _ => 0) := by rw [Eh21, hp_ne (by omega)]; exact e7
  have e8 : h21 (b + 8) = cI 8 (fun _ => 0) := by rw [Eh21, hp_ne (by omega)]; exact e8
  have e9 : h21 (b + 9) = cI 8 (fun _ => 0) := by rw [Eh21, hp_ne (by omega)]; exact e9
  have e10 : h21 (b + 10) = cI 60 (fun _ => 0) := by rw [Eh21, hp_ne (by omega)]; exact e10
  have hB := hB.put Eh21 (by omega)
  refine r_putF (pc' := 93) fp_RX6_40 rfl (dk_at dkX6_init 45 rfl) ⟨by omega, e0⟩ (Nat.le_of_ble_eq_true rfl) (PT_arr _ _) rfl (fun h22 Eh22 => ?_)
  have e0 : h22 b = cO 6 [vR (b + 1), vR (b + 2), vI 0, vI 0, vR (b + 3), vR (b + 4), vI 0, vR (b + 5), vR (b + 6), vR (b + 7), vR (b + 8), vR (b + 9), vI 0, vR (b + 10), vI 0, vR (b + 11), vN, vN, vN, vI 0, vI 0, vI 0, vN, vN, vN, vN] := by rw [Eh22, hp_eq]; rfl
  have e1 : h22 (b + 1) = cI 81 (fun _ => 0) := by rw [Eh22, hp_ne (by omega)]; exact e1
  have e2 : h22 (b + 2) = cI 324 (fun _ => 0) := by rw [Eh22, hp_ne (by omega)]; exact e2
  have e3 : h22 (b + 3) = cI 8 (fun _ => 0) := by rw [Eh22, hp_ne (by omega)]; exact e3
  have e4 : h22 (b + 4) = cI 8 (fun _ => 0) := by rw [Eh22, hp_ne (by omega)]; exact e4
  have e5 : h22 (b + 5) = cI 8 (fun _ => 0) := by rw [Eh22, hp_ne (by omega)]; exact e5
  have e6 : h22 (b + 6) = cI 8 (fun _ => 0) := by rw [Eh22, hp_ne (by omega)]; exact e6
  have e7 : h22 (b + 7) = cI 8 (fun _ => 0) := by rw [Eh22, hp_ne (by omega)]; exact e7
  have e8 : h22 (b + 8) = cI 8 (fun _ => 0) := by rw [Eh22, hp_ne (by omega)]; exact e8
  have e9 : h22 (b + 9) = cI 8 (fun _ => 0) := by rw [Eh22, hp_ne (by omega)]; exact e9
  have e10 : h22 (b + 10) = cI 60 (fun _ => 0) := by rw [Eh22, hp_ne (by omega)]; exact e10
  have e11 : h22 (b + 11) = cI 8 (fun _ => 0) := by rw [Eh22, hp_ne (by omega)]; exact e11
  have hB := hB.put Eh22 (by omega)
  refine q_aload_n (pc' := 94) (dk_at dkX6_init 46 rfl) rfl rfl ?_
  refine q_ldc (pc' := 96) (z := 1228800) kc_RX6_43 (by decide +kernel) (dk_at dkX6_init 47 rfl) rfl ?_
  refine r_newI (pc' := 98) (n' := b + 13) 1228800 rfl (dk_at dkX6_init 48 rfl) (by decide) (by decide) (by decide) rfl (by omega) (fun h23 Eh23 => ?_)
  have e12 : h23 (b + 12) = cI 1228800 (fun _ => 0) := by rw [Eh23, hp_eq]
  have e0 : h23 b = cO 6 [vR (b + 1), vR (b + 2), vI 0, vI 0, vR (b + 3), vR (b + 4), vI 0, vR (b + 5), vR (b + 6), vR (b + 7), vR (b + 8), vR (b + 9), vI 0, vR (b + 10), vI 0, vR (b + 11), vN, vN, vN, vI 0, vI 0, vI 0, vN, vN, vN, vN] := by rw [Eh23, hp_ne (by omega)]; exact e0
  have e1 : h23 (b + 1) = cI 81 (fun _ => 0) := by rw [Eh23, hp_ne (by omega)]; exact e1
  have e2 : h23 (b + 2) = cI 324 (fun _ => 0) := by rw [Eh23, hp_ne (by omega)]; exact e2
  have e3 : h23 (b + 3) = cI 8 (fun _ => 0) := by rw [Eh23, hp_ne (by omega)]; exact e3
  have e4 : h23 (b + 4) = cI 8 (fun _ => 0) := by rw [Eh23, hp_ne (by omega)]; exact e4
  have e5 : h23 (b + 5) = cI 8 (fun _ => 0) := by rw [Eh23, hp_ne (by omega)]; exact e5
  have e6 : h23 (b + 6) = cI 8 (fun _ => 0) := by rw [Eh23, hp_ne (by omega)]; exact e6
  have e7 : h23 (b + 7) = cI 8 (fun _ => 0) := by rw [Eh23, hp_ne (by omega)]; exact e7
  have e8 : h23 (b + 8) = cI 8 (fun _ => 0) := by rw [Eh23, hp_ne (by omega)]; exact e8
  have e9 : h23 (b + 9) = cI 8 (fun _ => 0) := by rw [Eh23, hp_ne (by omega)]; exact e9
  have e10 : h23 (b + 10) = cI 60 (fun _ => 0) := by rw [Eh23, hp_ne (by omega)]; exact e10
  have e11 : h23 (b + 11) = cI 8 (fun _ => 0) := by rw [Eh23, hp_ne (by omega)]; exact e11
  have hB := hB.put Eh23 (by omega)
  refine r_putF (pc' := 101) fp_RX6_44 rfl (dk_at dkX6_init 49 rfl) ⟨by omega, e0⟩ (Nat.le_of_ble_eq_true rfl) (PT_arr _ _) rfl (fun h24 Eh24 => ?_)
  have e0 : h24 b = cO 6 [vR (b + 1), vR (b + 2), vI 0, vI 0, vR (b + 3), vR (b + 4), vI 0, vR (b + 5), vR (b + 6), vR (b + 7), vR (b + 8), vR (b + 9), vI 0, vR (b + 10), vI 0, vR (b + 11), vR (b + 12), vN, vN, vI 0, vI 0, vI 0, vN, vN, vN, vN] := by rw [Eh24, hp_eq]; rfl
  have e1 : h24 (b + 1) = cI 81 (fun _ => 0) := by rw [Eh24, hp_ne (by omega)]; exact e1
  have e2 : h24 (b + 2) = cI 324 (fun _ => 0) := by rw [Eh24, hp_ne (by omega)]; exact e2
  have e3 : h24 (b + 3) = cI 8 (fun _ => 0) := by rw [Eh24, hp_ne (by omega)]; exact e3
  have e4 : h24 (b + 4) = cI 8 (fun _ => 0) := by rw [Eh24, hp_ne (by omega)]; exact e4
  have e5 : h24 (b + 5) = cI 8 (fun _ => 0) := by rw [Eh24, hp_ne (by omega)]; exact e5
  have e6 : h24 (b + 6) = cI 8 (fun _ => 0) := by rw [Eh24, hp_ne (by omega)]; exact e6
  have e7 : h24 (b + 7) = cI 8 (fun _ => 0) := by rw [Eh24, hp_ne (by omega)]; exact e7
  have e8 : h24 (b + 8) = cI 8 (fun _ => 0) := by rw [Eh24, hp_ne (by omega)]; exact e8
  have e9 : h24 (b + 9) = cI 8 (fun _ => 0) := by rw [Eh24, hp_ne (by omega)]; exact e9
  have e10 : h24 (b + 10) = cI 60 (fun _ => 0) := by rw [Eh24, hp_ne (by omega)]; exact e10
  have e11 : h24 (b + 11) = cI 8 (fun _ => 0) := by rw [Eh24, hp_ne (by omega)]; exact e11
  have e12 : h24 (b + 12) = cI 1228800 (fun _ => 0) := by rw [Eh24, hp_ne (by omega)]; exact e12
  have hB := hB.put Eh24 (by omega)
  refine q_aload_n (pc' := 102) (dk_at dkX6_init 50 rfl) rfl rfl ?_
  refine q_sipush (pc' := 105) (dk_at dkX6_init 51 rfl) (by decide +kernel) rfl ?_
  refine r_newI (pc' := 107) (n' := b + 14) 1024 rfl (dk_at dkX6_init 52 rfl) (by decide) (by decide) (by decide) rfl (by omega) (fun h25 Eh25 => ?_)
  have e13 : h25 (b + 13) = cI 1024 (fun _ => 0) := by rw [Eh25, hp_eq]
  have e0 : h25 b = cO 6 [vR (b + 1), vR (b + 2), vI 0, vI 0, vR (b + 3), vR (b + 4), vI 0, vR (b + 5), vR (b + 6), vR (b + 7), vR (b + 8), vR (b + 9), vI 0, vR (b + 10), vI 0, vR (b + 11), vR (b + 12), vN, vN, vI 0, vI 0, vI 0, vN, vN, vN, vN] := by rw [Eh25, hp_ne (by omega)]; exact e0
  have e1 : h25 (b + 1) = cI 81 (fun _ => 0) := by rw [Eh25, hp_ne (by omega)]; exact e1
  have e2 : h25 (b + 2) = cI 324 (fun _ => 0) := by rw [Eh25, hp_ne (by omega)]; exact e2
  have e3 : h25 (b + 3) = cI 8 (fun _ => 0) := by rw [Eh25, hp_ne (by omega)]; exact e3
  have e4 : h25 (b + 4) = cI 8 (fun _ => 0) := by rw [Eh25, hp_ne (by omega)]; exact e4
  have e5 : h25 (b + 5) = cI 8 (fun _ => 0) := by rw [Eh25, hp_ne (by omega)]; exact e5
  have e6 : h25 (b + 6) = cI 8 (fun _ => 0) := by rw [Eh25, hp_ne (by omega)]; exact e6
  have e7 : h25 (b + 7) = cI 8 (fun _ => 0) := by rw [Eh25, hp_ne (by omega)]; exact e7
  have e8 : h25 (b + 8) = cI 8 (fun _ => 0) := by rw [Eh25, hp_ne (by omega)]; exact e8
  have e9 : h25 (b + 9) = cI 8 (fun _ => 0) := by rw [Eh25, hp_ne (by omega)]; exact e9
  have e10 : h25 (b + 10) = cI 60 (fun _ => 0) := by rw [Eh25, hp_ne (by omega)]; exact e10
  have e11 : h25 (b + 11) = cI 8 (fun _ => 0) := by rw [Eh25, hp_ne (by omega)]; exact e11
  have e12 : h25 (b + 12) = cI 1228800 (fun _ => 0) := by rw [Eh25, hp_ne (by omega)]; exact e12
  have hB := hB.put Eh25 (by omega)
  refine r_putF (pc' := 110) fp_RX6_47 rfl (dk_at dkX6_init 53 rfl) ⟨by omega, e0⟩ (Nat.le_of_ble_eq_true rfl) (PT_arr _ _) rfl (fun h26 Eh26 => ?_)
  have e0 : h26 b = cO 6 [vR (b + 1), vR (b + 2), vI 0, vI 0, vR (b + 3), vR (b + 4), vI 0, vR (b + 5), vR (b + 6), vR (b + 7), vR (b + 8), vR (b + 9), vI 0, vR (b + 10), vI 0, vR (b + 11), vR (b + 12), vR (b + 13), vN, vI 0, vI 0, vI 0, vN, vN, vN, vN] := by rw [Eh26, hp_eq]; rfl
  have e1 : h26 (b + 1) = cI 81 (fun _ => 0) := by rw [Eh26, hp_ne (by omega)]; exact e1
  have e2 : h26 (b + 2) = cI 324 (fun _ => 0) := by rw [Eh26, hp_ne (by omega)]; exact e2
  have e3 : h26 (b + 3) = cI 8 (fun _ => 0) := by rw [Eh26, hp_ne (by omega)]; exact e3
  have e4 : h26 (b + 4) = cI 8 (fun _ => 0) := by rw [Eh26, hp_ne (by omega)]; exact e4
  have e5 : h26 (b + 5) = cI 8 (fun _ => 0) := by rw [Eh26, hp_ne (by omega)]; exact e5
  have e6 : h26 (b + 6) = cI 8 (fun _ => 0) := by rw [Eh26, hp_ne (by omega)]; exact e6
  have e7 : h26 (b + 7) = cI 8 (fun _ => 0) := by rw [Eh26, hp_ne (by omega)]; exact e7
  have e8 : h26 (b + 8) = cI 8 (fun _ => 0) := by rw [Eh26, hp_ne (by omega)]; exact e8
  have e9 : h26 (b + 9) = cI 8 (fun _ => 0) := by rw [Eh26, hp_ne (by omega)]; exact e9
  have e10 : h26 (b + 10) = cI 60 (fun _ => 0) := by rw [Eh26, hp_ne (by omega)]; exact e10
  have e11 : h26 (b + 11) = cI 8 (fun _ => 0) := by rw [Eh26, hp_ne (by omega)]; exact e11
  have e12 : h26 (b + 12) = cI 1228800 (fun _ => 0) := by rw [Eh26, hp_ne (by omega)]; exact e12
  have e13 : h26 (b + 13) = cI 1024 (fun _ => 0) := by rw [Eh26, hp_ne (by omega)]; exact e13
  have hB := hB.put Eh26 (by omega)
  refine q_aload_n (pc' := 111) (dk_at dkX6_init 54 rfl) rfl rfl ?_
  refine q_sipush (pc' := 114) (dk_at dkX6_init 55 rfl) (by decide +kernel) rfl ?_
  refine r_newI (pc' := 116) (n' := b + 15) 1024 rfl (dk_at dkX6_init 56 rfl) (by decide) (by decide) (by decide) rfl (by omega) (fun h27 Eh27 => ?_)
  have e14 : h27 (b + 14) = cI 1024 (fun _ => 0) := by rw [Eh27, hp_eq]
  have e0 : h27 b = cO 6 [vR (b + 1), vR (b + 2), vI 0, vI 0, vR (b + 3), vR (b + 4), vI 0, vR (b + 5), vR (b + 6), vR (b + 7), vR (b + 8), vR (b + 9), vI 0, vR (b + 10), vI 0, vR (b + 11), vR (b + 12), vR (b + 13), vN, vI 0, vI 0, vI 0, vN, vN, vN, vN] := by rw [Eh27, hp_ne (by omega)]; exact e0
  have e1 : h27 (b + 1) = cI 81 (fun _ => 0) := by rw [Eh27, hp_ne (by omega)]; exact e1
  have e2 : h27 (b + 2) = cI 324 (fun _ => 0) := by rw [Eh27, hp_ne (by omega)]; exact e2
  have e3 : h27 (b + 3) = cI 8 (fun _ => 0) := by rw [Eh27, hp_ne (by omega)]; exact e3
  have e4 : h27 (b + 4) = cI 8 (fun _ => 0) := by rw [Eh27, hp_ne (by omega)]; exact e4
  have e5 : h27 (b + 5) = cI 8 (fun _ => 0) := by rw [Eh27, hp_ne (by omega)]; exact e5
  have e6 : h27 (b + 6) = cI 8 (fun _ => 0) := by rw [Eh27, hp_ne (by omega)]; exact e6
  have e7 : h27 (b + 7) = cI 8 (fun _ => 0) := by rw [Eh27, hp_ne (by omega)]; exact e7
  have e8 : h27 (b + 8) = cI 8 (fun _ => 0) := by rw [Eh27, hp_ne (by omega)]; exact e8
  have e9 : h27 (b + 9) = cI 8 (fun _ => 0) := by rw [Eh27, hp_ne (by omega)]; exact e9
  have e10 : h27 (b + 10) = cI 60 (fun _ => 0) := by rw [Eh27, hp_ne (by omega)]; exact e10
  have e11 : h27 (b + 11) = cI 8 (fun _ => 0) := by rw [Eh27, hp_ne (by omega)]; exact e11
  have e12 : h27 (b + 12) = cI 1228800 (fun _ => 0) := by rw [Eh27, hp_ne (by omega)]; exact e12
  have e13 : h27 (b + 13) = cI 1024 (fun _ => 0) := by rw [Eh27, hp_ne (by omega)]; exact e13
  have hB := hB.put Eh27 (by omega)
  refine r_putF (pc' := 119) fp_RX6_50 rfl (dk_at dkX6_init 57 rfl) ⟨by omega, e0⟩ (Nat.le_of_ble_eq_true rfl) (PT_arr _ _) rfl (fun h28 Eh28 => ?_)
  have e0 : h28 b = cO 6 [vR (b + 1), vR (b + 2), vI 0, vI 0, vR (b + 3), vR (b + 4), vI 0, vR (b + 5), vR (b + 6), vR (b + 7), vR (b + 8), vR (b + 9), vI 0, vR (b + 10), vI 0, vR (b + 11), vR (b + 12), vR (b + 13), vR (b + 14), vI 0, vI 0, vI 0, vN, vN, vN, vN] := by rw [Eh28, hp_eq]; rfl
  have e1 : h28 (b + 1) = cI 81 (fun _ => 0) := by rw [Eh28, hp_ne (by omega)]; exact e1
  have e2 : h28 (b + 2) = cI 324 (fun _ => 0) := by rw [Eh28, hp_ne (by omega)]; exact e2
  have e3 : h28 (b + 3) = cI 8 (fun _ => 0) := by rw [Eh28, hp_ne (by omega)]; exact e3
  have e4 : h28 (b + 4) = cI 8 (fun _ => 0) := by rw [Eh28, hp_ne (by omega)]; exact e4
  have e5 : h28 (b + 5) = cI 8 (fun _ => 0) := by rw [Eh28, hp_ne (by omega)]; exact e5
  have e6 : h28 (b + 6) = cI 8 (fun _ => 0) := by rw [Eh28, hp_ne (by omega)]; exact e6
  have e7 : h28 (b + 7) = cI 8 (fun _ => 0) := by rw [Eh28, hp_ne (by omega)]; exact e7
  have e8 : h28 (b + 8) = cI 8 (fun _ => 0) := by rw [Eh28, hp_ne (by omega)]; exact e8
  have e9 : h28 (b + 9) = cI 8 (fun _ => 0) := by rw [Eh28, hp_ne (by omega)]; exact e9
  have e10 : h28 (b + 10) = cI 60 (fun _ => 0) := by rw [Eh28, hp_ne (by omega)]; exact e10
  have e11 : h28 (b + 11) = cI 8 (fun _ => 0) := by rw [Eh28, hp_ne (by omega)]; exact e11
  have e12 : h28 (b + 12) = cI 1228800 (fun _ => 0) := by rw [Eh28, hp_ne (by omega)]; exact e12
  have e13 : h28 (b + 13) = cI 1024 (fun _ => 0) := by rw [Eh28, hp_ne (by omega)]; exact e13
  have e14 : h28 (b + 14) = cI 1024 (fun _ => 0) := by rw [Eh28, hp_ne (by omega)]; exact e14
  have hB := hB.put Eh28 (by omega)
  refine q_aload_n (pc' := 120) (dk_at dkX6_init 58 rfl) rfl rfl ?_
  refine q_sipush (pc' := 123) (dk_at dkX6_init 59 rfl) (by decide +kernel) rfl ?_
  refine r_newI (pc' := 125) (n' := b + 16) 256 rfl (dk_at dkX6_init 60 rfl) (by decide) (by decide) (by decide) rfl (by omega) (fun h29 Eh29 => ?_)
  have e15 : h29 (b + 15) = cI 256 (fun _ => 0) := by rw [Eh29, hp_eq]
  have e0 : h29 b = cO 6 [vR (b + 1), vR (b + 2), vI 0, vI 0, vR (b + 3), vR (b + 4), vI 0, vR (b + 5), vR (b + 6), vR (b + 7), vR (b + 8), vR (b + 9), vI 0, vR (b + 10), vI 0, vR (b + 11), vR (b + 12), vR (b + 13), vR (b + 14), vI 0, vI 0, vI 0, vN, vN, vN, vN] := by rw [Eh29, hp_ne (by omega)]; exact e0
  have e1 : h29 (b + 1) = cI 81 (fun _ => 0) := by rw [Eh29, hp_ne (by omega)]; exact e1
  have e2 : h29 (b + 2) = cI 324 (fun _ => 0) := by rw [Eh29, hp_ne (by omega)]; exact e2
  have e3 : h29 (b + 3) = cI 8 (fun _ => 0) := by rw [Eh29, hp_ne (by omega)]; exact e3
  have e4 : h29 (b + 4) = cI 8 (fun _ => 0) := by rw [Eh29, hp_ne (by omega)]; exact e4
  have e5 : h29 (b + 5) = cI 8 (fun _ => 0) := by rw [Eh29, hp_ne (by omega)]; exact e5
  have e6 : h29 (b + 6) = cI 8 (fun _ => 0) := by rw [Eh29, hp_ne (by omega)]; exact e6
  have e7 : h29 (b + 7) = cI 8 (fun _ => 0) := by rw [Eh29, hp_ne (by omega)]; exact e7
  have e8 : h29 (b + 8) = cI 8 (fun _ => 0) := by rw [Eh29, hp_ne (by omega)]; exact e8
  have e9 : h29 (b + 9) = cI 8 (fun _ => 0) := by rw [Eh29, hp_ne (by omega)]; exact e9
  have e10 : h29 (b + 10) = cI 60 (fun _ => 0) := by rw [Eh29, hp_ne (by omega)]; exact e10
  have e11 : h29 (b + 11) = cI 8 (fun _ => 0) := by rw [Eh29, hp_ne (by omega)]; exact e11
  have e12 : h29 (b + 12) = cI 1228800 (fun _ => 0) := by rw [Eh29, hp_ne (by omega)]; exact e12
  have e13 : h29 (b + 13) = cI 1024 (fun _ => 0) := by rw [Eh29, hp_ne (by omega)]; exact e13
  have e14 : h29 (b + 14) = cI 1024 (fun _ => 0) := by rw [Eh29, hp_ne (by omega)]; exact e14
  have hB := hB.put Eh29 (by omega)
  refine r_putF (pc' := 128) fp_RX6_53 rfl (dk_at dkX6_init 61 rfl) ⟨by omega, e0⟩ (Nat.le_of_ble_eq_true rfl) (PT_arr _ _) rfl (fun h30 Eh30 => ?_)
  have e0 : h30 b = cO 6 [vR (b + 1), vR (b + 2), vI 0, vI 0, vR (b + 3), vR (b + 4), vI 0, vR (b + 5), vR (b + 6), vR (b + 7), vR (b + 8), vR (b + 9), vI 0, vR (b + 10), vI 0, vR (b + 11), vR (b + 12), vR (b + 13), vR (b + 14), vI 0, vI 0, vI 0, vR (b + 15), vN, vN, vN] := by rw [Eh30, hp_eq]; rfl
  have e1 : h30 (b + 1) = cI 81 (fun _ => 0) := by rw [Eh30, hp_ne (by omega)]; exact e1
  have e2 : h30 (b + 2) = cI 324 (fun _ => 0) := by rw [Eh30, hp_ne (by omega)]; exact e2
  have e3 : h30 (b + 3) = cI 8 (fun _ => 0) := by rw [Eh30, hp_ne (by omega)]; exact e3
  have e4 : h30 (b + 4) = cI 8 (fun _ => 0) := by rw [Eh30, hp_ne (by omega)]; exact e4
  have e5 : h30 (b + 5) = cI 8 (fun _ => 0) := by rw [Eh30, hp_ne (by omega)]; exact e5
  have e6 : h30 (b + 6) = cI 8 (fun _ => 0) := by rw [Eh30, hp_ne (by omega)]; exact e6
  have e7 : h30 (b + 7) = cI 8 (fun _ => 0) := by rw [Eh30, hp_ne (by omega)]; exact e7
  have e8 : h30 (b + 8) = cI 8 (fun _ => 0) := by rw [Eh30, hp_ne (by omega)]; exact e8
  have e9 : h30 (b + 9) = cI 8 (fun _ => 0) := by rw [Eh30, hp_ne (by omega)]; exact e9
  have e10 : h30 (b + 10) = cI 60 (fun _ => 0) := by rw [Eh30, hp_ne (by omega)]; exact e10
  have e11 : h30 (b + 11) = cI 8 (fun _ => 0) := by rw [Eh30, hp_ne (by omega)]; exact e11
  have e12 : h30 (b + 12) = cI 1228800 (fun _ => 0) := by rw [Eh30, hp_ne (by omega)]; exact e12
  have e13 : h30 (b + 13) = cI 1024 (fun _ => 0) := by rw [Eh30, hp_ne (by omega)]; exact e13
  have e14 : h30 (b + 14) = cI 1024 (fun _ => 0) := by rw [Eh30, hp_ne (by omega)]; exact e14
  have e15 : h30 (b + 15) = cI 256 (fun _ => 0) := by rw [Eh30, hp_ne (by omega)]; exact e15
  have hB := hB.put Eh30 (by omega)
  refine q_aload_n (pc' := 129) (dk_at dkX6_init 62 rfl) rfl rfl ?_
  refine q_sipush (pc' := 132) (dk_at dkX6_init 63 rfl) (by decide +kernel) rfl ?_
  refine r_newI (pc' := 134) (n' := b + 17) 256 rfl (dk_at dkX6_init 64 rfl) (by decide) (by decide) (by decide) rfl (by omega) (fun h31 Eh31 => ?_)
  have e16 : h31 (b + 16) = cI 256 (fun _ => 0) := by rw [Eh31, hp_eq]
  have e0 : h31 b = cO 6 [vR (b + 1), vR (b + 2), vI 0, vI 0, vR (b + 3), vR (b + 4), vI 0, vR (b + 5), vR (b + 6), vR (b + 7), vR (b + 8), vR (b + 9), vI 0, vR (b + 10), vI 0, vR (b + 11), vR (b + 12), vR (b + 13), vR (b + 14), vI 0, vI 0, vI 0, vR (b + 15), vN, vN, vN] := by rw [Eh31, hp_ne (by omega)]; exact e0
  have e1 : h31 (b + 1) = cI 81 (fun _ => 0) := by rw [Eh31, hp_ne (by omega)]; exact e1
  have e2 : h31 (b + 2) = cI 324 (fun _ => 0) := by rw [Eh31, hp_ne (by omega)]; exact e2
  have e3 : h31 (b + 3) = cI 8 (fun _ => 0) := by rw [Eh31, hp_ne (by omega)]; exact e3
  have e4 : h31 (b + 4) = cI 8 (fun _ => 0) := by rw [Eh31, hp_ne (by omega)]; exact e4
  have e5 : h31 (b + 5) = cI 8 (fun _ => 0) := by rw [Eh31, hp_ne (by omega)]; exact e5
  have e6 : h31 (b + 6) = cI 8 (fun _ => 0) := by rw [Eh31, hp_ne (by omega)]; exact e6
  have e7 : h31 (b + 7) = cI 8 (fun _ => 0) := by rw [Eh31, hp_ne (by omega)]; exact e7
  have e8 : h31 (b + 8) = cI 8 (fun _ => 0) := by rw [Eh31, hp_ne (by omega)]; exact e8
  have e9 : h31 (b + 9) = cI 8 (fun _ => 0) := by rw [Eh31, hp_ne (by omega)]; exact e9
  have e10 : h31 (b + 10) = cI 60 (fun _ => 0) := by rw [Eh31, hp_ne (by omega)]; exact e10
  have e11 : h31 (b + 11) = cI 8 (fun _ => 0) := by rw [Eh31, hp_ne (by omega)]; exact e11
  have e12 : h31 (b + 12) = cI 1228800 (fun _ => 0) := by rw [Eh31, hp_ne (by omega)]; exact e12
  have e13 : h31 (b + 13) = cI 1024 (fun _ => 0) := by rw [Eh31, hp_ne (by omega)]; exact e13
  have e14 : h31 (b + 14) = cI 1024 (fun _ => 0) := by rw [Eh31, hp_ne (by omega)]; exact e14
  have e15 : h31 (b + 15) = cI 256 (fun _ => 0) := by rw [Eh31, hp_ne (by omega)]; exact e15
  have hB := hB.put Eh31 (by omega)
  refine r_putF (pc' := 137) fp_RX6_56 rfl (dk_at dkX6_init 65 rfl) ⟨by omega, e0⟩ (Nat.le_of_ble_eq_true rfl) (PT_arr _ _) rfl (fun h32 Eh32 => ?_)
  have e0 : h32 b = cO 6 [vR (b + 1), vR (b + 2), vI 0, vI 0, vR (b + 3), vR (b + 4), vI 0, vR (b + 5), vR (b + 6), vR (b + 7), vR (b + 8), vR (b + 9), vI 0, vR (b + 10), vI 0, vR (b + 11), vR (b + 12), vR (b + 13), vR (b + 14), vI 0, vI 0, vI 0, vR (b + 15), vR (b + 16), vN, vN] := by rw [Eh32, hp_eq]; rfl
  have e1 : h32 (b + 1) = cI 81 (fun _ => 0) := by rw [Eh32, hp_ne (by omega)]; exact e1
  have e2 : h32 (b + 2) = cI 324 (fun _ => 0) := by rw [Eh32, hp_ne (by omega)]; exact e2
  have e3 : h32 (b + 3) = cI 8 (fun _ => 0) := by rw [Eh32, hp_ne (by omega)]; exact e3
  have e4 : h32 (b + 4) = cI 8 (fun _ => 0) := by rw [Eh32, hp_ne (by omega)]; exact e4
  have e5 : h32 (b + 5) = cI 8 (fun _ => 0) := by rw [Eh32, hp_ne (by omega)]; exact e5
  have e6 : h32 (b + 6) = cI 8 (fun _ => 0) := by rw [Eh32, hp_ne (by omega)]; exact e6
  have e7 : h32 (b + 7) = cI 8 (fun _ => 0) := by rw [Eh32, hp_ne (by omega)]; exact e7
  have e8 : h32 (b + 8) = cI 8 (fun _ => 0) := by rw [Eh32, hp_ne (by omega)]; exact e8
  have e9 : h32 (b + 9) = cI 8 (fun _ => 0) := by rw [Eh32, hp_ne (by omega)]; exact e9
  have e10 : h32 (b + 10) = cI 60 (fun _ => 0) := by rw [Eh32, hp_ne (by omega)]; exact e10
  have e11 : h32 (b + 11) = cI 8 (fun _ => 0) := by rw [Eh32, hp_ne (by omega)]; exact e11
  have e12 : h32 (b + 12) = cI 1228800 (fun _ => 0) := by rw [Eh32, hp_ne (by omega)]; exact e12
  have e13 : h32 (b + 13) = cI 1024 (fun _ => 0) := by rw [Eh32, hp_ne (by omega)]; exact e13
  have e14 : h32 (b + 14) = cI 1024 (fun _ => 0) := by rw [Eh32, hp_ne (by omega)]; exact e14
  have e15 : h32 (b + 15) = cI 256 (fun _ => 0) := by rw [Eh32, hp_ne (by omega)]; exact e15
  have e16 : h32 (b + 16) = cI 256 (fun _ => 0) := by rw [Eh32, hp_ne (by omega)]; exact e16
  have hB := hB.put Eh32 (by omega)
  refine q_aload_n (pc' := 138) (dk_at dkX6_init 66 rfl) rfl rfl ?_
  refine q_sipush (pc' := 141) (dk_at dkX6_init 67 rfl) (by decide +kernel) rfl ?_
  refine r_newI (pc' := 143) (n' := b + 18) 256 rfl (dk_at dkX6_init 68 rfl) (by decide) (by decide) (by decide) rfl (by omega) (fun h33 Eh33 => ?_)
  have e17 : h33 (b + 17) = cI 256 (fun _ => 0) := by rw [Eh33, hp_eq]
  have e0 : h33 b = cO 6 [vR (b + 1), vR (b + 2), vI 0, vI 0, vR (b + 3), vR (b + 4), vI 0, vR (b + 5), vR (b + 6), vR (b + 7), vR (b + 8), vR (b + 9), vI 0, vR (b + 10), vI 0, vR (b + 11), vR (b + 12), vR (b + 13), vR (b + 14), vI 0, vI 0, vI 0, vR (b + 15), vR (b + 16), vN, vN] := by rw [Eh33, hp_ne (by omega)]; exact e0
  have e1 : h33 (b + 1) = cI 81 (fun _ => 0) := by rw [Eh33, hp_ne (by omega)]; exact e1
  have e2 : h33 (b + 2) = cI 324 (fun _ => 0) := by rw [Eh33, hp_ne (by omega)]; exact e2
  have e3 : h33 (b + 3) = cI 8 (fun _ => 0) := by rw [Eh33, hp_ne (by omega)]; exact e3
  have e4 : h33 (b + 4) = cI 8 (fun _ => 0) := by rw [Eh33, hp_ne (by omega)]; exact e4
  have e5 : h33 (b + 5) = cI 8 (fun _ => 0) := by rw [Eh33, hp_ne (by omega)]; exact e5
  have e6 : h33 (b + 6) = cI 8 (fun _ => 0) := by rw [Eh33, hp_ne (by omega)]; exact e6
  have e7 : h33 (b + 7) = cI 8 (fun _ => 0) := by rw [Eh33, hp_ne (by omega)]; exact e7
  have e8 : h33 (b + 8) = cI 8 (fun _ => 0) := by rw [Eh33, hp_ne (by omega)]; exact e8
  have e9 : h33 (b + 9) = cI 8 (fun _ => 0) := by rw [Eh33, hp_ne (by omega)]; exact e9
  have e10 : h33 (b + 10) = cI 60 (fun _ => 0) := by rw [Eh33, hp_ne (by omega)]; exact e10
  have e11 : h33 (b + 11) = cI 8 (fun _ => 0) := by rw [Eh33, hp_ne (by omega)]; exact e11
  have e12 : h33 (b + 12) = cI 1228800 (fun _ => 0) := by rw [Eh33, hp_ne (by omega)]; exact e12
  have e13 : h33 (b + 13) = cI 1024 (fun _ => 0) := by rw [Eh33, hp_ne (by omega)]; exact e13
  have e14 : h33 (b + 14) = cI 1024 (fun _ => 0) := by rw [Eh33, hp_ne (by omega)]; exact e14
  have e15 : h33 (b + 15) = cI 256 (fun _ => 0) := by rw [Eh33, hp_ne (by omega)]; exact e15
  have e16 : h33 (b + 16) = cI 256 (fun _ => 0) := by rw [Eh33, hp_ne (by omega)]; exact e16
  have hB := hB.put Eh33 (by omega)
  refine r_putF (pc' := 146) fp_RX6_59 rfl (dk_at dkX6_init 69 rfl) ⟨by omega, e0⟩ (Nat.le_of_ble_eq_true rfl) (PT_arr _ _) rfl (fun h34 Eh34 => ?_)
  have e0 : h34 b = cO 6 [vR (b + 1), vR (b + 2), vI 0, vI 0, vR (b + 3), vR (b + 4), vI 0, vR (b + 5), vR (b + 6), vR (b + 7), vR (b + 8), vR (b + 9), vI 0, vR (b + 10), vI 0, vR (b + 11), vR (b + 12), vR (b + 13), vR (b + 14), vI 0, vI 0, vI 0, vR (b + 15), vR (b + 16), vR (b + 17), vN] := by rw [Eh34, hp_eq]; rfl
  have e1 : h34 (b + 1) = cI 81 (fun _ => 0) := by rw [Eh34, hp_ne (by omega)]; exact e1
  have e2 : h34 (b + 2) = cI 324 (fun _ => 0) := by rw [Eh34, hp_ne (by omega)]; exact e2
  have e3 : h34 (b + 3) = cI 8 (fun _ => 0) := by rw [Eh34, hp_ne (by omega)]; exact e3
  have e4 : h34 (b + 4) = cI 8 (fun _ => 0) := by rw [Eh34, hp_ne (by omega)]; exact e4
  have e5 : h34 (b + 5) = cI 8 (fun _ => 0) := by rw [Eh34, hp_ne (by omega)]; exact e5
  have e6 : h34 (b + 6) = cI 8 (fun _ => 0) := by rw [Eh34, hp_ne (by omega)]; exact e6
  have e7 : h34 (b + 7) = cI 8 (fun _ => 0) := by rw [Eh34, hp_ne (by omega)]; exact e7
  have e8 : h34 (b + 8) = cI 8 (fun _ => 0) := by rw [Eh34, hp_ne (by omega)]; exact e8
  have e9 : h34 (b + 9) = cI 8 (fun _ => 0) := by rw [Eh34, hp_ne (by omega)]; exact e9
  have e10 : h34 (b + 10) = cI 60 (fun _ => 0) := by rw [Eh34, hp_ne (by omega)]; exact e10
  have e11 : h34 (b + 11) = cI 8 (fun _ => 0) := by rw [Eh34, hp_ne (by omega)]; exact e11
  have e12 : h34 (b + 12) = cI 1228800 (fun _ => 0) := by rw [Eh34, hp_ne (by omega)]; exact e12
  have e13 : h34 (b + 13) = cI 1024 (fun _ => 0) := by rw [Eh34, hp_ne (by omega)]; exact e13
  have e14 : h34 (b + 14) = cI 1024 (fun _ => 0) := by rw [Eh34, hp_ne (by omega)]; exact e14
  have e15 : h34 (b + 15) = cI 256 (fun _ => 0) := by rw [Eh34, hp_ne (by omega)]; exact e15
  have e16 : h34 (b + 16) = cI 256 (fun _ => 0) := by rw [Eh34, hp_ne (by omega)]; exact e16
  have e17 : h34 (b + 17) = cI 256 (fun _ => 0) := by rw [Eh34, hp_ne (by omega)]; exact e17
  have hB := hB.put Eh34 (by omega)
  refine q_aload_n (pc' := 147) (dk_at dkX6_init 70 rfl) rfl rfl ?_
  refine q_bipush (pc' := 149) (dk_at dkX6_init 71 rfl) (by decide +kernel) rfl ?_
  refine r_newI (pc' := 151) (n' := b + 19) 20 rfl (dk_at dkX6_init 72 rfl) (by decide) (by decide) (by decide) rfl (by omega) (fun h35 Eh35 => ?_)
  have e18 : h35 (b + 18) = cI 20 (fun _ => 0) := by rw [Eh35, hp_eq]
  have e0 : h35 b = cO 6 [vR (b + 1), vR (b + 2), vI 0, vI 0, vR (b + 3), vR (b + 4), vI 0, vR (b + 5), vR (b + 6), vR (b + 7), vR (b + 8), vR (b + 9), vI 0, vR (b + 10), vI 0, vR (b + 11), vR (b + 12), vR (b + 13), vR (b + 14), vI 0, vI 0, vI 0, vR (b + 15), vR (b + 16), vR (b + 17), vN] := by rw [Eh35, hp_ne (by omega)]; exact e0
  have e1 : h35 (b + 1) = cI 81 (fun _ => 0) := by rw [Eh35, hp_ne (by omega)]; exact e1
  have e2 : h35 (b + 2) = cI 324 (fun _ => 0) := by rw [Eh35, hp_ne (by omega)]; exact e2
  have e3 : h35 (b + 3) = cI 8 (fun _ => 0) := by rw [Eh35, hp_ne (by omega)]; exact e3
  have e4 : h35 (b + 4) = cI 8 (fun _ => 0) := by rw [Eh35, hp_ne (by omega)]; exact e4
  have e5 : h35 (b + 5) = cI 8 (fun _ => 0) := by rw [Eh35, hp_ne (by omega)]; exact e5
  have e6 : h35 (b + 6) = cI 8 (fun _ => 0) := by rw [Eh35, hp_ne (by omega)]; exact e6
  have e7 : h35 (b + 7) = cI 8 (fun _ => 0) := by rw [Eh35, hp_ne (by omega)]; exact e7
  have e8 : h35 (b + 8) = cI 8 (fun _ => 0) := by rw [Eh35, hp_ne (by omega)]; exact e8
  have e9 : h35 (b + 9) = cI 8 (fun _ => 0) := by rw [Eh35, hp_ne (by omega)]; exact e9
  have e10 : h35 (b + 10) = cI 60 (fun _ => 0) := by rw [Eh35, hp_ne (by omega)]; exact e10
  have e11 : h35 (b + 11) = cI 8 (fun _ => 0) := by rw [Eh35, hp_ne (by omega)]; exact e11
  have e12 : h35 (b + 12) = cI 1228800 (fun _ => 0) := by rw [Eh35, hp_ne (by omega)]; exact e12
  have e13 : h35 (b + 13) = cI 1024 (fun _ => 0) := by rw [Eh35, hp_ne (by omega)]; exact e13
  have e14 : h35 (b + 14) = cI 1024 (fun _ => 0) := by rw [Eh35, hp_ne (by omega)]; exact e14
  have e15 : h35 (b + 15) = cI 256 (fun _ => 0) := by rw [Eh35, hp_ne (by omega)]; exact e15
  have e16 : h35 (b + 16) = cI 256 (fun _ => 0) := by rw [Eh35, hp_ne (by omega)]; exact e16
  have e17 : h35 (b + 17) = cI 256 (fun _ => 0) := by rw [Eh35, hp_ne (by omega)]; exact e17
  have hB := hB.put Eh35 (by omega)
  refine r_putF (pc' := 154) fp_RX6_62 rfl (dk_at dkX6_init 73 rfl) ⟨by omega, e0⟩ (Nat.le_of_ble_eq_true rfl) (PT_arr _ _) rfl (fun h36 Eh36 => ?_)
  have e0 : h36 b = cO 6 [vR (b + 1), vR (b + 2), vI 0, vI 0, vR (b + 3), vR (b + 4), vI 0, vR (b + 5), vR (b + 6), vR (b + 7), vR (b + 8), vR (b + 9), vI 0, vR (b + 10), vI 0, vR (b + 11), vR (b + 12), vR (b + 13), vR (b + 14), vI 0, vI 0, vI 0, vR (b + 15), vR (b + 16), vR (b + 17), vR (b + 18)] := by rw [Eh36, hp_eq]; rfl
  have e1 : h36 (b + 1) = cI 81 (fun _ => 0) := by rw [Eh36, hp_ne (by omega)]; exact e1
  have e2 : h36 (b + 2) = cI 324 (fun _ => 0) := by rw [Eh36, hp_ne (by omega)]; exact e2
  have e3 : h36 (b + 3) = cI 8 (fun _ => 0) := by rw [Eh36, hp_ne (by omega)]; exact e3
  have e4 : h36 (b + 4) = cI 8 (fun _ => 0) := by rw [Eh36, hp_ne (by omega)]; exact e4
  have e5 : h36 (b + 5) = cI 8 (fun _ => 0) := by rw [Eh36, hp_ne (by omega)]; exact e5
  have e6 : h36 (b + 6) = cI 8 (fun _ => 0) := by rw [Eh36, hp_ne (by omega)]; exact e6
  have e7 : h36 (b + 7) = cI 8 (fun _ => 0) := by rw [Eh36, hp_ne (by omega)]; exact e7
  have e8 : h36 (b + 8) = cI 8 (fun _ => 0) := by rw [Eh36, hp_ne (by omega)]; exact e8
  have e9 : h36 (b + 9) = cI 8 (fun _ => 0) := by rw [Eh36, hp_ne (by omega)]; exact e9
  have e10 : h36 (b + 10) = cI 60 (fun _ => 0) := by rw [Eh36, hp_ne (by omega)]; exact e10
  have e11 : h36 (b + 11) = cI 8 (fun _ => 0) := by rw [Eh36, hp_ne (by omega)]; exact e11
  have e12 : h36 (b + 12) = cI 1228800 (fun _ => 0) := by rw [Eh36, hp_ne (by omega)]; exact e12
  have e13 : h36 (b + 13) = cI 1024 (fun _ => 0) := by rw [Eh36, hp_ne (by omega)]; exact e13
  have e14 : h36 (b + 14) = cI 1024 (fun _ => 0) := by rw [Eh36, hp_ne (by omega)]; exact e14
  have e15 : h36 (b + 15) = cI 256 (fun _ => 0) := by rw [Eh36, hp_ne (by omega)]; exact e15
  have e16 : h36 (b + 16) = cI 256 (fun _ => 0) := by rw [Eh36, hp_ne (by omega)]; exact e16
  have e17 : h36 (b + 17) = cI 256 (fun _ => 0) := by rw [Eh36, hp_ne (by omega)]; exact e17
  have e18 : h36 (b + 18) = cI 20 (fun _ => 0) := by rw [Eh36, hp_ne (by omega)]; exact e18
  have hB := hB.put Eh36 (by omega)
  refine q_aload_n (pc' := 155) (dk_at dkX6_init 74 rfl) rfl rfl ?_
  refine r_getf (pc' := 158) fl_RX6_7 (dk_at dkX6_init 75 rfl) ⟨by omega, e0⟩ rfl rfl ?_
  refine q_bipush (pc' := 160) (dk_at dkX6_init 76 rfl) (by decide +kernel) rfl ?_
  refine q_iconst (pc' := 161) (dk_at dkX6_init 77 rfl) rfl ?_
  refine r_iast (pc' := 162) (dk_at dkX6_init 78 rfl) ⟨by omega, e1⟩ 62 rfl (by omega) (by decide) rfl (fun h37 Eh37 => ?_)
  have e1 : h37 (b + 1) = cI 81 (upz (fun _ => 0) 62 1) := by rw [Eh37, hp_eq]
  have e0 : h37 b = cO 6 [vR (b + 1), vR (b + 2), vI 0, vI 0, vR (b + 3), vR (b + 4), vI 0, vR (b + 5), vR (b + 6), vR (b + 7), vR (b + 8), vR (b + 9), vI 0, vR (b + 10), vI 0, vR (b + 11), vR (b + 12), vR (b + 13), vR (b + 14), vI 0, vI 0, vI 0, vR (b + 15), vR (b + 16), vR (b + 17), vR (b + 18)] := by rw [Eh37, hp_ne (by omega)]; exact e0
  have e2 : h37 (b + 2) = cI 324 (fun _ => 0) := by rw [Eh37, hp_ne (by omega)]; exact e2
  have e3 : h37 (b + 3) = cI 8 (fun _ => 0) := by rw [Eh37, hp_ne (by omega)]; exact e3
  have e4 : h37 (b + 4) = cI 8 (fun _ => 0) := by rw [Eh37, hp_ne (by omega)]; exact e4
  have e5 : h37 (b + 5) = cI 8 (fun _ => 0) := by rw [Eh37, hp_ne (by omega)]; exact e5
  have e6 : h37 (b + 6) = cI 8 (fun _ => 0) := by rw [Eh37, hp_ne (by omega)]; exact e6
  have e7 : h37 (b + 7) = cI 8 (fun _ => 0) := by rw [Eh37, hp_ne (by omega)]; exact e7
  have e8 : h37 (b + 8) = cI 8 (fun _ => 0) := by rw [Eh37, hp_ne (by omega)]; exact e8
  have e9 : h37 (b + 9) = cI 8 (fun _ => 0) := by rw [Eh37, hp_ne (by omega)]; exact e9
  have e10 : h37 (b + 10) = cI 60 (fun _ => 0) := by rw [Eh37, hp_ne (by omega)]; exact e10
  have e11 : h37 (b + 11) = cI 8 (fun _ => 0) := by rw [Eh37, hp_ne (by omega)]; exact e11
  have e12 : h37 (b + 12) = cI 1228800 (fun _ => 0) := by rw [Eh37, hp_ne (by omega)]; exact e12
  have e13 : h37 (b + 13) = cI 1024 (fun _ => 0) := by rw [Eh37, hp_ne (by omega)]; exact e13
  have e14 : h37 (b + 14) = cI 1024 (fun _ => 0) := by rw [Eh37, hp_ne (by omega)]; exact e14
  have e15 : h37 (b + 15) = cI 256 (fun _ => 0) := by rw [Eh37, hp_ne (by omega)]; exact e15
  have e16 : h37 (b + 16) = cI 256 (fun _ => 0) := by rw [Eh37, hp_ne (by omega)]; exact e16
  have e17 : h37 (b + 17) = cI 256 (fun _ => 0) := by rw [Eh37, hp_ne (by omega)]; exact e17
  have e18 : h37 (b + 18) = cI 20 (fun _ => 0) := by rw [Eh37, hp_ne (by omega)]; exact e18
  have hB := hB.put Eh37 (by omega)
  refine q_aload_n (pc' := 163) (dk_at dkX6_init 79 rfl) rfl rfl ?_
  refine r_getf (pc' := 166) fl_RX6_7 (dk_at dkX6_init 80 rfl) ⟨by omega, e0⟩ rfl rfl ?_
  refine q_bipush (pc' := 168) (dk_at dkX6_init 81 rfl) (by decide +kernel) rfl ?_
  refine q_iconst (pc' := 169) (dk_at dkX6_init 82 rfl) rfl ?_
  refine r_iast (pc' := 170) (dk_at dkX6_init 83 rfl) ⟨by omega, e1⟩ 63 rfl (by omega) (by decide) rfl (fun h38 Eh38 => ?_)
  have e1 : h38 (b + 1) = cI 81 (upz (upz (fun _ => 0) 62 1) 63 1) := by rw [Eh38, hp_eq]
  have e0 : h38 b = cO 6 [vR (b + 1), vR (b + 2), vI 0, vI 0, vR (b + 3), vR (b + 4), vI 0, vR (b + 5), vR (b + 6), vR (b + 7), vR (b + 8), vR (b + 9), vI 0, vR (b + 10), vI 0, vR (b + 11), vR (b + 12), vR (b + 13), vR (b + 14), vI 0, vI 0, vI 0, vR (b + 15), vR (b + 16), vR (b + 17), vR (b + 18)] := by rw [Eh38, hp_ne (by omega)]; exact e0
  have e2 : h38 (b + 2) = cI 324 (fun _ => 0) := by rw [Eh38, hp_ne (by omega)]; exact e2
  have e3 : h38 (b + 3) = cI 8 (fun _ => 0) := by rw [Eh38, hp_ne (by omega)]; exact e3
  have e4 : h38 (b + 4) = cI 8 (fun _ => 0) := by rw [Eh38, hp_ne (by omega)]; exact e4
  have e5 : h38 (b + 5) = cI 8 (fun _ => 0) := by rw [Eh38, hp_ne (by omega)]; exact e5
  have e6 : h38 (b + 6) = cI 8 (fun _ => 0) := by rw [Eh38, hp_ne (by omega)]; exact e6
  have e7 : h38 (b + 7) = cI 8 (fun _ => 0) := by rw [Eh38, hp_ne (by omega)]; exact e7
  have e8 : h38 (b + 8) = cI 8 (fun _ => 0) := by rw [Eh38, hp_ne (by omega)]; exact e8
  have e9 : h38 (b + 9) = cI 8 (fun _ => 0) := by rw [Eh38, hp_ne (by omega)]; exact e9
  have e10 : h38 (b + 10) = cI 60 (fun _ => 0) := by rw [Eh38, hp_ne (by omega)]; exact e10
  have e11 : h38 (b + 11) = cI 8 (fun _ => 0) := by rw [Eh38, hp_ne (by omega)]; exact e11
  have e12 : h38 (b + 12) = cI 1228800 (fun _ => 0) := by rw [Eh38, hp_ne (by omega)]; exact e12
  have e13 : h38 (b + 13) = cI 1024 (fun _ => 0) := by rw [Eh38, hp_ne (by omega)]; exact e13
  have e14 : h38 (b + 14) = cI 1024 (fun _ => 0) := by rw [Eh38, hp_ne (by omega)]; exact e14
  have e15 : h38 (b + 15) = cI 256 (fun _ => 0) := by rw [Eh38, hp_ne (by omega)]; exact e15
  have e16 : h38 (b + 16) = cI 256 (fun _ => 0) := by rw [Eh38, hp_ne (by omega)]; exact e16
  have e17 : h38 (b + 17) = cI 256 (fun _ => 0) := by rw [Eh38, hp_ne (by omega)]; exact e17
  have e18 : h38 (b + 18) = cI 20 (fun _ => 0) := by rw [Eh38, hp_ne (by omega)]; exact e18
  have hB := hB.put Eh38 (by omega)
  refine q_iconst (pc' := 171) (dk_at dkX6_init 84 rfl) rfl ?_
  refine q_istore_n (pc' := 172) (L' := [some (vR b), some (vI 0)]) (dk_at dkX6_init 85 rfl) (by decide) rfl rfl ?_
  have hM : isModel (b + 19) h38 b (upz (upz (fun _ => 0) 62 1) 63 1) (fun _ => 0) 0 0 (fun _ => 0) (fun _ => 0) 0 (fun _ => 0) (fun _ => 0) (fun _ => 0) (fun _ => 0) (fun _ => 0) 0 (fun _ => 0) 0 (fun _ => 0) (fun _ => 0) (fun _ => 0) (fun _ => 0) 0 0 0 (fun _ => 0) (fun _ => 0) (fun _ => 0) (fun _ => 0) := ⟨⟨by omega, e0⟩, ⟨by omega, e1⟩, ⟨by omega, e2⟩, ⟨by omega, e3⟩, ⟨by omega, e4⟩, ⟨by omega, e5⟩, ⟨by omega, e6⟩, ⟨by omega, e7⟩, ⟨by omega, e8⟩, ⟨by omega, e9⟩, ⟨by omega, e10⟩, ⟨by omega, e11⟩, ⟨by omega, e12⟩, ⟨by omega, e13⟩, ⟨by omega, e14⟩, ⟨by omega, e15⟩, ⟨by omega, e16⟩, ⟨by omega, e17⟩, ⟨by omega, e18⟩⟩
  have hF : Fr h38 h38 b (b + 19) := Fr.rf
  refine l_mi1 (h := h38) (m := b) ?_ 1228800 0 _ _ (by omega) (fun q hq => absurd hq (Nat.not_lt_zero _)) hM hF
  intro le1 g1 x1 hle hM hF
  refine q_iconst (pc' := 193) (dk_at dkX6_init 96 rfl) rfl ?_
  refine q_istore_n (pc' := 194) (L' := [some (vR b), some (vI 0)]) (dk_at dkX6_init 97 rfl) (by decide) rfl rfl ?_
  refine l_mi2 (h := h38) (m := b) ?_ 1024 0 _ _ _ (by omega) (fun q hq => absurd hq (Nat.not_lt_zero _)) hM hF
  intro fr1 un1 g2 x2 hfu hM hF
  refine q_vret rfl (dk_at dkX6_init 113 rfl) (by decide) (by decide) ?_
  refine ⟨rfl, rfl, ⟨_, _, _, _, _, _, _, _, _, _, _, _, _, _, _, _, _, _, _, _, _, _, _, hM, ⟨⟨rfl, fun w j _ hj => absurd hj (Nat.not_lt_zero _), fun t ht => ?_, fun f t hf ht => ?_, rfl, rfl, rfl⟩, rfl, fun k hk => absurd hk (Nat.not_lt_zero _), fun k hk => absurd hk (Nat.not_lt_zero _)⟩, fun i hi => absurd hi (Nat.not_lt_zero _), fun i hi => absurd hi (Nat.not_lt_zero _), fun k hk => ?_⟩, fun k hk => ?_⟩
  · rw [upz_ne (by omega), upz_ne (by omega)]; rfl
  · rw [upz_ne (by omega), upz_ne (by omega)]; rfl
  · have a := hfu k hk
    exact ⟨by omega, by omega, fun t ht _ => hle _ (by omega)⟩
  · rw [hF k (by omega)]; exact hB k hk
