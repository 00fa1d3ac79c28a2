/-! THE CASES OF THE LAW -/
theorem MOI.obj {n : Nat} {h : PH} {m : Nat} {th : Int} {σ : CS} (H : MOI n h m th σ) : ∃ fs, At1 n h m (cO 6 fs) := by
  obtain ⟨A, sd, sq, op, ss, es, bo, su, se, tx1, ba, le, fr, un, sF, sR, sT, ad, l0, bm, nf, ne, nc, H1, H2⟩ := H
  exact ⟨_, H1.obj⟩
theorem MOI.fr {n : Nat} {h h' : PH} {m : Nat} {th : Int} {σ : CS} (H : MOI n h m th σ) (E : ∀ k, m ≤ k → k < m + 19 → h' k = h k) : MOI n h' m th σ := by
  obtain ⟨A, sd, sq, op, ss, es, bo, su, se, tx1, ba, le, fr, un, sF, sR, sT, ad, l0, bm, nf, ne, nc, H1, H2⟩ := H
  exact ⟨A, sd, sq, op, ss, es, bo, su, se, tx1, ba, le, fr, un, sF, sR, sT, ad, l0, bm, nf, ne, nc, H1.fr (fun k hk => E k (by omega) (by omega)), H2⟩
theorem k_thr {d n : Nat} {h : PH} {m : Nat} {th : Int} {σ : CS} (H : MOI n h m th σ) : CtrI mX6_thrown d [vR m] n h (fun y h' => h' = h ∧ y = th) := by
  obtain ⟨A, sd, sq, op, ss, es, bo, su, se, tx1, ba, le, fr, un, sF, sR, sT, ad, l0, bm, nf, ne, nc, H1, H2⟩ := H
  exact k_M_thrown H1
/-- between two calls of the law: the object and the model are in one state -/
def LwI (h : PH) : Prop := ∃ (σ : CS) (th : Int) (f : Nat → Int), BMI 169 h 0 σ ∧ BOk σ ∧ MOI 169 h 149 th σ ∧ At1 169 h 168 (cJ 1 f)
abbrev Lh (i : Nat) : List (Option PV) := [none, some (vR 0), some (vR 149), some (vR 168), some (vI (i : Int)), none, none, none]
abbrev QQ (Z : SX) (F : FT) (k u pc : Nat) (L : List (Option PV)) (S : List PV) (h : PH) : Prop := QL Z mL_law 50 601024 7293034 F k u pc L S false 169 h
def Nx (Z : SX) (F : FT) (k u i : Nat) : Prop := ∀ (k' u' : Nat) (h' : PH), k' ≤ k + 1 → u' ≤ u + 6 → LwI h' → QQ Z F k' u' 1495 (Lh i) [] h'
theorem Nx.go {Z : SX} {F : FT} {k u i : Nat} (H : Nx Z F k u i) {k' u' : Nat} {h' : PH} {a b c : Option PV} (h1 : k' ≤ k + 1) (h2 : u' ≤ u + 6) (hL : LwI h') : QQ Z F k' u' 1495 [none, some (vR 0), some (vR 149), some (vR 168), some (vI (i : Int)), a, b, c] [] h' :=
  ql_weak (H k' u' h' h1 h2 hL) (fun B q hq => by
    obtain ⟨j, v, e1, rfl⟩ := mem_prs.mp hq
    refine mem_prs.mpr ⟨j, v, ?_, rfl⟩
    rcases j with _ | _ | _ | _ | _ | _ | _ | _ | j
    · cases e1
    · exact e1
    · exact e1
    · exact e1
    · exact e1
    · cases e1
    · cases e1
    · cases e1
    · simp at e1)
theorem ca_addJob {Z : SX} {F : FT} {k u i : Nat} {h : PH} (hZ : Z.2.1 ≤ 3072) (hi : i + 6 ≤ Z.2.1) (hk : k + 1 ≤ 601024) (hu : u + 6 ≤ 7293034) (hL : LwI h) (nx : Nx Z F k u i) : QQ Z F k u 168 (Lh i) [] h := by
  obtain ⟨σ, th, f, hI, hO, hM, hA⟩ := hL
  refine ql_aload_n (pc' := 169) (dk_at dkL_law 25 rfl) rfl rfl ?_
  refine ql_arg (j := 1) (pc' := 175) rfl (by omega) (by omega) (dk_at dkL_law 26 rfl) (dk_at dkL_law 27 rfl) (dk_at dkL_law 28 rfl) (dk_at dkL_law 29 rfl) (dk_at dkL_law 30 rfl) rfl ?_
  refine ql_arg (j := 2) (pc' := 181) rfl (by omega) (by omega) (dk_at dkL_law 31 rfl) (dk_at dkL_law 32 rfl) (dk_at dkL_law 33 rfl) (dk_at dkL_law 34 rfl) (dk_at dkL_law 35 rfl) rfl ?_
  refine ql_arg (j := 3) (pc' := 187) rfl (by omega) (by omega) (dk_at dkL_law 36 rfl) (dk_at dkL_law 37 rfl) (dk_at dkL_law 38 rfl) (dk_at dkL_law 39 rfl) (dk_at dkL_law 40 rfl) rfl ?_
  refine ql_arg (j := 4) (pc' := 193) rfl (by omega) (by omega) (dk_at dkL_law 41 rfl) (dk_at dkL_law 42 rfl) (dk_at dkL_law 43 rfl) (dk_at dkL_law 44 rfl) (dk_at dkL_law 45 rfl) rfl ?_
  refine ql_arg (j := 5) (pc' := 199) rfl (by omega) (by omega) (dk_at dkL_law 46 rfl) (dk_at dkL_law 47 rfl) (dk_at dkL_law 48 rfl) (dk_at dkL_law 49 rfl) (dk_at dkL_law 50 rfl) rfl ?_
  refine ql_aload_n (pc' := 200) (dk_at dkL_law 51 rfl) rfl rfl ?_
  refine ql_callSW (pc' := 203) (As := [vR 0, vI (scI Z (i + 1)), vI (scI Z (i + 2)), vI (scI Z (i + 3)), vI (scI Z (i + 4)), vI (scI Z (i + 5)), vR 168]) (S := []) cs_RL_79 (dk_at dkL_law 52 rfl) (w_addJob (d := 21) (Nat.le_refl _) hI hO hA (scI_ir _ _) (scI_ir _ _) (scI_ir _ _) (scI_ir _ _) (scI_ir _ _)) (by decide) hk hu rfl (Nat.le_of_ble_eq_true rfl) rfl (Nat.le_of_ble_eq_true rfl) rfl ?_
  rintro r n' h1 ⟨rfl, x, v, σ', rfl, hx, hMC, hI1, hO1, ⟨f1, hA1, hf1⟩, hc⟩
  have hM1 : MOI 169 h1 149 th σ := hM.fr (fun k k1 k2 => hc k k1 (by omega))
  obtain ⟨fs1, hob1⟩ := hM1.obj
  refine ql_istore (pc' := 205) (L' := [none, some (vR 0), some (vR 149), some (vR 168), some (vI (i : Int)), some (vI x), none, none]) (by decide) (dk_at dkL_law 53 rfl) (by decide) rfl rfl ?_
  refine ql_aload_n (pc' := 206) (dk_at dkL_law 54 rfl) rfl rfl ?_
  refine ql_arg (j := 1) (pc' := 212) rfl (by omega) (by omega) (dk_at dkL_law 55 rfl) (dk_at dkL_law 56 rfl) (dk_at dkL_law 57 rfl) (dk_at dkL_law 58 rfl) (dk_at dkL_law 59 rfl) rfl ?_
  refine ql_arg (j := 2) (pc' := 218) rfl (by omega) (by omega) (dk_at dkL_law 60 rfl) (dk_at dkL_law 61 rfl) (dk_at dkL_law 62 rfl) (dk_at dkL_law 63 rfl) (dk_at dkL_law 64 rfl) rfl ?_
  refine ql_arg (j := 3) (pc' := 224) rfl (by omega) (by omega) (dk_at dkL_law 65 rfl) (dk_at dkL_law 66 rfl) (dk_at dkL_law 67 rfl) (dk_at dkL_law 68 rfl) (dk_at dkL_law 69 rfl) rfl ?_
  refine ql_arg (j := 4) (pc' := 230) rfl (by omega) (by omega) (dk_at dkL_law 70 rfl) (dk_at dkL_law 71 rfl) (dk_at dkL_law 72 rfl) (dk_at dkL_law 73 rfl) (dk_at dkL_law 74 rfl) rfl ?_
  refine ql_arg (j := 5) (pc' := 236) rfl (by omega) (by omega) (dk_at dkL_law 75 rfl) (dk_at dkL_law 76 rfl) (dk_at dkL_law 77 rfl) (dk_at dkL_law 78 rfl) (dk_at dkL_law 79 rfl) rfl ?_
  refine rl_cVI (pc' := 239) (As := [vI (scI Z (i + 1)), vI (scI Z (i + 2)), vI (scI Z (i + 3)), vI (scI Z (i + 4)), vI (scI Z (i + 5))]) (S := []) cv_RL_84 (dk_at dkL_law 80 rfl) hob1 rfl (hMC 30 h1 th (Nat.le_refl _) hM1) (by decide) (by omega) (by omega) rfl (Nat.le_of_ble_eq_true rfl) rfl (Nat.le_of_ble_eq_true rfl) rfl ?_
  rintro v' h2 ⟨hv, hM2, hF2⟩
  obtain ⟨fs2, hob2⟩ := hM2.obj
  have hfin : LwI h2 := ⟨σ', x, f1, hI1.frm hF2 (by omega), hO1, hM2, hA1.fr (hF2 168 (by omega))⟩
  refine ql_istore (pc' := 241) (L' := [none, some (vR 0), some (vR 149), some (vR 168), some (vI (i : Int)), some (vI x), some (vI v'), none]) (by decide) (dk_at dkL_law 81 rfl) (by decide) rfl rfl ?_
  refine ql_aload_n (pc' := 242) (dk_at dkL_law 82 rfl) rfl rfl ?_
  refine rl_cVI (pc' := 245) (As := []) (S := []) cv_RL_85 (dk_at dkL_law 83 rfl) hob2 rfl (k_thr (d := 30) hM2) (by decide) (by omega) (by omega) rfl (Nat.le_of_ble_eq_true rfl) rfl (Nat.le_of_ble_eq_true rfl) rfl ?_
  rintro y h3 ⟨e3, ey⟩
  rw [e3]
  refine ql_iload (pc' := 247) (dk_at dkL_law 84 rfl) rfl rfl ?_
  refine ql_icmp1 (tgt := 252) ey (dk_at dkL_law 85 rfl) (by decide) ?_
  refine ql_iload (pc' := 254) (dk_at dkL_law 88 rfl) rfl rfl ?_
  refine ql_if_ne (tgt := 269) (pc' := 257) (dk_at dkL_law 89 rfl) (by decide) rfl (by omega) (fun z => ?_) (fun z => ?_)
  · refine ql_goto (tgt := 1495) (dk_at dkL_law 99 rfl) (by decide) ?_
    exact nx.go (by omega) (by omega) hfin
  · refine ql_aload_n (pc' := 258) (dk_at dkL_law 90 rfl) rfl rfl ?_
    refine ql_iconst (pc' := 259) (dk_at dkL_law 91 rfl) rfl ?_
    refine rl_lald (pc' := 260) (dk_at dkL_law 92 rfl) (hA1.fr (hF2 168 (by omega))) 0 rfl (by decide) (by decide) rfl ?_
    refine ql_iload (pc' := 262) (dk_at dkL_law 93 rfl) rfl rfl ?_
    refine ql_i2l (pc' := 263) (dk_at dkL_law 94 rfl) rfl ?_
    refine ql_lcmp1 (pc' := 264) (by rw [hf1 (by omega), hv (by omega)]) (dk_at dkL_law 95 rfl) rfl ?_
    refine ql_if_eq (tgt := 269) (pc' := 267) (dk_at dkL_law 96 rfl) (by decide) rfl (by decide) (fun _ => ?_) (fun z => absurd rfl z)
    refine ql_goto (tgt := 1495) (dk_at dkL_law 99 rfl) (by decide) ?_
    exact nx.go (by omega) (by omega) hfin
theorem ca_removeJob {Z : SX} {F : FT} {k u i : Nat} {h : PH} (hZ : Z.2.1 ≤ 3072) (hi : i + 6 ≤ Z.2.1) (hk : k + 1 ≤ 601024) (hu : u + 6 ≤ 7293034) (hL : LwI h) (nx : Nx Z F k u i) : QQ Z F k u 272 (Lh i) [] h := by
  obtain ⟨σ, th, f, hI, hO, hM, hA⟩ := hL
  refine ql_aload_n (pc' := 273) (dk_at dkL_law 100 rfl) rfl rfl ?_
  refine ql_arg (j := 1) (pc' := 279) rfl (by omega) (by omega) (dk_at dkL_law 101 rfl) (dk_at dkL_law 102 rfl) (dk_at dkL_law 103 rfl) (dk_at dkL_law 104 rfl) (dk_at dkL_law 105 rfl) rfl ?_
  refine ql_aload_n (pc' := 280) (dk_at dkL_law 106 rfl) rfl rfl ?_
  refine ql_callSW (pc' := 283) (As := [vR 0, vI (scI Z (i + 1)), vR 168]) (S := []) cs_RL_88 (dk_at dkL_law 107 rfl) (w_removeJob (d := 21) (Nat.le_refl _) hI hO hA (scI_ir _ _)) (by decide) hk hu rfl (Nat.le_of_ble_eq_true rfl) rfl (Nat.le_of_ble_eq_true rfl) rfl ?_
  rintro r n' h1 ⟨rfl, x, v, σ', rfl, hx, hMC, hI1, hO1, ⟨f1, hA1, hf1⟩, hc⟩
  have hM1 : MOI 169 h1 149 th σ := hM.fr (fun k k1 k2 => hc k k1 (by omega))
  obtain ⟨fs1, hob1⟩ := hM1.obj
  refine ql_istore (pc' := 285) (L' := [none, some (vR 0), some (vR 149), some (vR 168), some (vI (i : Int)), some (vI x), none, none]) (by decide) (dk_at dkL_law 108 rfl) (by decide) rfl rfl ?_
  refine ql_aload_n (pc' := 286) (dk_at dkL_law 109 rfl) rfl rfl ?_
  refine ql_arg (j := 1) (pc' := 292) rfl (by omega) (by omega) (dk_at dkL_law 110 rfl) (dk_at dkL_law 111 rfl) (dk_at dkL_law 112 rfl) (dk_at dkL_law 113 rfl) (dk_at dkL_law 114 rfl) rfl ?_
  refine rl_cVI (pc' := 295) (As := [vI (scI Z (i + 1))]) (S := []) cv_RL_91 (dk_at dkL_law 115 rfl) hob1 rfl (hMC 30 h1 th (Nat.le_refl _) hM1) (by decide) (by omega) (by omega) rfl (Nat.le_of_ble_eq_true rfl) rfl (Nat.le_of_ble_eq_true rfl) rfl ?_
  rintro v' h2 ⟨hv, hM2, hF2⟩
  obtain ⟨fs2, hob2⟩ := hM2.obj
  have hfin : LwI h2 := ⟨σ', x, f1, hI1.frm hF2 (by omega), hO1, hM2, hA1.fr (hF2 168 (by omega))⟩
  refine ql_istore (pc' := 297) (L' := [none, some (vR 0), some (vR 149), some (vR 168), some (vI (i : Int)), some (vI x), some (vI v'), none]) (by decide) (dk_at dkL_law 116 rfl) (by decide) rfl rfl ?_
  refine ql_aload_n (pc' := 298) (dk_at dkL_law 117 rfl) rfl rfl ?_
  refine rl_cVI (pc' := 301) (As := []) (S := []) cv_RL_85 (dk_at dkL_law 118 rfl) hob2 rfl (k_thr (d := 30) hM2) (by decide) (by omega) (by omega) rfl (Nat.le_of_ble_eq_true rfl) rfl (Nat.le_of_ble_eq_true rfl) rfl ?_
  rintro y h3 ⟨e3, ey⟩
  rw [e3]
  refine ql_iload (pc' := 303) (dk_at dkL_law 119 rfl) rfl rfl ?_
  refine ql_icmp1 (tgt := 308) ey (dk_at dkL_law_1 0 rfl) (by decide) ?_
  refine ql_iload (pc' := 310) (dk_at dkL_law_1 3 rfl) rfl rfl ?_
  refine ql_if_ne (tgt := 325) (pc' := 313) (dk_at dkL_law_1 4 rfl) (by decide) rfl (by omega) (fun z => ?_) (fun z => ?_)
  · refine ql_goto (tgt := 1495) (dk_at dkL_law_1 14 rfl) (by decide) ?_
    exact nx.go (by omega) (by omega) hfin
  · refine ql_aload_n (pc' := 314) (dk_at dkL_law_1 5 rfl) rfl rfl ?_
    refine ql_iconst (pc' := 315) (dk_at dkL_law_1 6 rfl) rfl ?_
    refine rl_lald (pc' := 316) (dk_at dkL_law_1 7 rfl) (hA1.fr (hF2 168 (by omega))) 0 rfl (by decide) (by decide) rfl ?_
    refine ql_iload (pc' := 318) (dk_at dkL_law_1 8 rfl) rfl rfl ?_
    refine ql_i2l (pc' := 319) (dk_at dkL_law_1 9 rfl) rfl ?_
    refine ql_lcmp1 (pc' := 320) (by rw [hf1 (by omega), hv (by omega)]) (dk_at dkL_law_1 10 rfl) rfl ?_
    refine ql_if_eq (tgt := 325) (pc' := 323) (dk_at dkL_law_1 11 rfl) (by decide) rfl (by decide) (fun _ => ?_) (fun z => absurd rfl z)
    refine ql_goto (tgt := 1495) (dk_at dkL_law_1 14 rfl) (by decide) ?_
    exact nx.go (by omega) (by omega) hfin
theorem ca_setJob {Z : SX} {F : FT} {k u i : Nat} {h : PH} (hZ : Z.2.1 ≤ 3072) (hi : i + 6 ≤ Z.2.1) (hk : k + 1 ≤ 601024) (hu : u + 6 ≤ 7293034) (hL : LwI h) (nx : Nx Z F k u i) : QQ Z F k u 328 (Lh i) [] h := by
  obtain ⟨σ, th, f, hI, hO, hM, hA⟩ := hL
  refine ql_aload_n (pc' := 329) (dk_at dkL_law_1 15 rfl) rfl rfl ?_
  refine ql_arg (j := 1) (pc' := 335) rfl (by omega) (by omega) (dk_at dkL_law_1 16 rfl) (dk_at dkL_law_1 17 rfl) (dk_at dkL_law_1 18 rfl) (dk_at dkL_law_1 19 rfl) (dk_at dkL_law_1 20 rfl) rfl ?_
  refine ql_arg (j := 2) (pc' := 341) rfl (by omega) (by omega) (dk_at dkL_law_1 21 rfl) (dk_at dkL_law_1 22 rfl) (dk_at dkL_law_1 23 rfl) (dk_at dkL_law_1 24 rfl) (dk_at dkL_law_1 25 rfl) rfl ?_
  refine ql_arg (j := 3) (pc' := 347) rfl (by omega) (by omega) (dk_at dkL_law_1 26 rfl) (dk_at dkL_law_1 27 rfl) (dk_at dkL_law_1 28 rfl) (dk_at dkL_law_1 29 rfl) (dk_at dkL_law_1 30 rfl) rfl ?_
  refine ql_aload_n (pc' := 348) (dk_at dkL_law_1 31 rfl) rfl rfl ?_
  refine ql_callSW (pc' := 351) (As := [vR 0, vI (scI Z (i + 1)), vI (scI Z (i + 2)), vI (scI Z (i + 3)), vR 168]) (S := []) cs_RL_92 (dk_at dkL_law_1 32 rfl) (w_setJob (d := 21) (Nat.le_refl _) hI hO hA (scI_ir _ _) (scI_ir _ _) (scI_ir _ _)) (by decide) hk hu rfl (Nat.le_of_ble_eq_true rfl) rfl (Nat.le_of_ble_eq_true rfl) rfl ?_
  rintro r n' h1 ⟨rfl, x, v, σ', rfl, hx, hMC, hI1, hO1, ⟨f1, hA1, hf1⟩, hc⟩
  have hM1 : MOI 169 h1 149 th σ := hM.fr (fun k k1 k2 => hc k k1 (by omega))
  obtain ⟨fs1, hob1⟩ := hM1.obj
  refine ql_istore (pc' := 353) (L' := [none, some (vR 0), some (vR 149), some (vR 168), some (vI (i : Int)), some (vI x), none, none]) (by decide) (dk_at dkL_law_1 33 rfl) (by decide) rfl rfl ?_
  refine ql_aload_n (pc' := 354) (dk_at dkL_law_1 34 rfl) rfl rfl ?_
  refine ql_arg (j := 1) (pc' := 360) rfl (by omega) (by omega) (dk_at dkL_law_1 35 rfl) (dk_at dkL_law_1 36 rfl) (dk_at dkL_law_1 37 rfl) (dk_at dkL_law_1 38 rfl) (dk_at dkL_law_1 39 rfl) rfl ?_
  refine ql_arg (j := 2) (pc' := 366) rfl (by omega) (by omega) (dk_at dkL_law_1 40 rfl) (dk_at dkL_law_1 41 rfl) (dk_at dkL_law_1 42 rfl) (dk_at dkL_law_1 43 rfl) (dk_at dkL_law_1 44 rfl) rfl ?_
  refine ql_arg (j := 3) (pc' := 372) rfl (by omega) (by omega) (dk_at dkL_law_1 45 rfl) (dk_at dkL_law_1 46 rfl) (dk_at dkL_law_1 47 rfl) (dk_at dkL_law_1 48 rfl) (dk_at dkL_law_1 49 rfl) rfl ?_
  refine rl_cVI (pc' := 375) (As := [vI (scI Z (i + 1)), vI (scI Z (i + 2)), vI (scI Z (i + 3))]) (S := []) cv_RL_95 (dk_at dkL_law_1 50 rfl) hob1 rfl (hMC 30 h1 th (Nat.le_refl _) hM1) (by decide) (by omega) (by omega) rfl (Nat.le_of_ble_eq_true rfl) rfl (Nat.le_of_ble_eq_true rfl) rfl ?_
  rintro v' h2 ⟨hv, hM2, hF2⟩
  obtain ⟨fs2, hob2⟩ := hM2.obj
  have hfin : LwI h2 := ⟨σ', x, f1, hI1.frm hF2 (by omega), hO1, hM2, hA1.fr (hF2 168 (by omega))⟩
  refine ql_istore (pc' := 377) (L' := [none, some (vR 0), some (vR 149), some (vR 168), some (vI (i : Int)), some (vI x), some (vI v'), none]) (by decide) (dk_at dkL_law_1 51 rfl) (by decide) rfl rfl ?_
  refine ql_aload_n (pc' := 378) (dk_at dkL_law_1 52 rfl) rfl rfl ?_
  refine rl_cVI (pc' := 381) (As := []) (S := []) cv_RL_85 (dk_at dkL_law_1 53 rfl) hob2 rfl (k_thr (d := 30) hM2) (by decide) (by omega) (by omega) rfl (Nat.le_of_ble_eq_true rfl) rfl (Nat.le_of_ble_eq_true rfl) rfl ?_
  rintro y h3 ⟨e3, ey⟩
  rw [e3]
  refine ql_iload (pc' := 383) (dk_at dkL_law_1 54 rfl) rfl rfl ?_
  refine ql_icmp1 (tgt := 388) ey (dk_at dkL_law_1 55 rfl) (by decide) ?_
  refine ql_iload (pc' := 390) (dk_at dkL_law_1 58 rfl) rfl rfl ?_
  refine ql_if_ne (tgt := 405) (pc' := 393) (dk_at dkL_law_1 59 rfl) (by decide) rfl (by omega) (fun z => ?_) (fun z => ?_)
  · refine ql_goto (tgt := 1495) (dk_at dkL_law_1 69 rfl) (by decide) ?_
    exact nx.go (by omega) (by omega) hfin
  · refine ql_aload_n (pc' := 394) (dk_at dkL_law_1 60 rfl) rfl rfl ?_
    refine ql_iconst (pc' := 395) (dk_at dkL_law_1 61 rfl) rfl ?_
    refine rl_lald (pc' := 396) (dk_at dkL_law_1 62 rfl) (hA1.fr (hF2 168 (by omega))) 0 rfl (by decide) (by decide) rfl ?_
    refine ql_iload (pc' := 398) (dk_at dkL_law_1 63 rfl) rfl rfl ?_
    refine ql_i2l (pc' := 399) (dk_at dkL_law_1 64 rfl) rfl ?_
    refine ql_lcmp1 (pc' := 400) (by rw [hf1 (by omega), hv (by omega)]) (dk_at dkL_law_1 65 rfl) rfl ?_
    refine ql_if_eq (tgt := 405) (pc' := 403) (dk_at dkL_law_1 66 rfl) (by decide) rfl (by decide) (fun _ => ?_) (fun z => absurd rfl z)
    refine ql_goto (tgt := 1495) (dk_at dkL_law_1 69 rfl) (by decide) ?_
    exact nx.go (by omega) (by omega) hfin
theorem ca_job {Z : SX} {F : FT} {k u i : Nat} {h : PH} (hZ : Z.2.1 ≤ 3072) (hi : i + 6 ≤ Z.2.1) (hk : k + 1 ≤ 601024) (hu : u + 6 ≤ 7293034) (hL : LwI h) (nx : Nx Z F k u i) : QQ Z F k u 408 (Lh i) [] h := by
  obtain ⟨σ, th, f, hI, hO, hM, hA⟩ := hL
  refine ql_aload_n (pc' := 409) (dk_at dkL_law_1 70 rfl) rfl rfl ?_
  refine ql_arg (j := 1) (pc' := 415) rfl (by omega) (by omega) (dk_at dkL_law_1 71 rfl) (dk_at dkL_law_1 72 rfl) (dk_at dkL_law_1 73 rfl) (dk_at dkL_law_1 74 rfl) (dk_at dkL_law_1 75 rfl) rfl ?_
  refine ql_arg (j := 2) (pc' := 421) rfl (by omega) (by omega) (dk_at dkL_law_1 76 rfl) (dk_at dkL_law_1 77 rfl) (dk_at dkL_law_1 78 rfl) (dk_at dkL_law_1 79 rfl) (dk_at dkL_law_1 80 rfl) rfl ?_
  refine ql_aload_n (pc' := 422) (dk_at dkL_law_1 81 rfl) rfl rfl ?_
  refine ql_callSW (pc' := 425) (As := [vR 0, vI (scI Z (i + 1)), vI (scI Z (i + 2)), vR 168]) (S := []) cs_RL_96 (dk_at dkL_law_1 82 rfl) (w_job (d := 21) (Nat.le_refl _) hI hO hA (scI_ir _ _) (scI_ir _ _)) (by decide) hk hu rfl (Nat.le_of_ble_eq_true rfl) rfl (Nat.le_of_ble_eq_true rfl) rfl ?_
  rintro r n' h1 ⟨rfl, x, v, σ', rfl, hx, hMC, hI1, hO1, ⟨f1, hA1, hf1⟩, hc⟩
  have hM1 : MOI 169 h1 149 th σ := hM.fr (fun k k1 k2 => hc k k1 (by omega))
  obtain ⟨fs1, hob1⟩ := hM1.obj
  refine ql_istore (pc' := 427) (L' := [none, some (vR 0), some (vR 149), some (vR 168), some (vI (i : Int)), some (vI x), none, none]) (by decide) (dk_at dkL_law_1 83 rfl) (by decide) rfl rfl ?_
  refine ql_aload_n (pc' := 428) (dk_at dkL_law_1 84 rfl) rfl rfl ?_
  refine ql_arg (j := 1) (pc' := 434) rfl (by omega) (by omega) (dk_at dkL_law_1 85 rfl) (dk_at dkL_law_1 86 rfl) (dk_at dkL_law_1 87 rfl) (dk_at dkL_law_1 88 rfl) (dk_at dkL_law_1 89 rfl) rfl ?_
  refine ql_arg (j := 2) (pc' := 440) rfl (by omega) (by omega) (dk_at dkL_law_1 90 rfl) (dk_at dkL_law_1 91 rfl) (dk_at dkL_law_1 92 rfl) (dk_at dkL_law_1 93 rfl) (dk_at dkL_law_1 94 rfl) rfl ?_
  refine rl_cVI (pc' := 443) (As := [vI (scI Z (i + 1)), vI (scI Z (i + 2))]) (S := []) cv_RL_99 (dk_at dkL_law_1 95 rfl) hob1 rfl (hMC 30 h1 th (Nat.le_refl _) hM1) (by decide) (by omega) (by omega) rfl (Nat.le_of_ble_eq_true rfl) rfl (Nat.le_of_ble_eq_true rfl) rfl ?_
  rintro v' h2 ⟨hv, hM2, hF2⟩
  obtain ⟨fs2, hob2⟩ := hM2.obj
  have hfin : LwI h2 := ⟨σ', x, f1, hI1.frm hF2 (by omega), hO1, hM2, hA1.fr (hF2 168 (by omega))⟩
  refine ql_istore (pc' := 445) (L' := [none, some (vR 0), some (vR 149), some (vR 168), some (vI (i : Int)), some (vI x), some (vI v'), none]) (by decide) (dk_at dkL_law_1 96 rfl) (by decide) rfl rfl ?_
  refine ql_aload_n (pc' := 446) (dk_at dkL_law_1 97 rfl) rfl rfl ?_
  refine rl_cVI (pc' := 449) (As := []) (S := []) cv_RL_85 (dk_at dkL_law_1 98 rfl) hob2 rfl (k_thr (d := 30) hM2) (by decide) (by omega) (by omega) rfl (Nat.le_of_ble_eq_true rfl) rfl (Nat.le_of_ble_eq_true rfl) rfl ?_
  rintro y h3 ⟨e3, ey⟩
  rw [e3]
  refine ql_iload (pc' := 451) (dk_at dkL_law_1 99 rfl) rfl rfl ?_
  refine ql_icmp1 (tgt := 456) ey (dk_at dkL_law_1 100 rfl) (by decide) ?_
  refine ql_iload (pc' := 458) (dk_at dkL_law_1 103 rfl) rfl rfl ?_
  refine ql_if_ne (tgt := 473) (pc' := 461) (dk_at dkL_law_1 104 rfl) (by decide) rfl (by omega) (fun z => ?_) (fun z => ?_)
  · refine ql_goto (tgt := 1495) (dk_at dkL_law_1 114 rfl) (by decide) ?_
    exact nx.go (by omega) (by omega) hfin
  · refine ql_aload_n (pc' := 462) (dk_at dkL_law_1 105 rfl) rfl rfl ?_
    refine ql_iconst (pc' := 463) (dk_at dkL_law_1 106 rfl) rfl ?_
    refine rl_lald (pc' := 464) (dk_at dkL_law_1 107 rfl) (hA1.fr (hF2 168 (by omega))) 0 rfl (by decide) (by decide) rfl ?_
    refine ql_iload (pc' := 466) (dk_at dkL_law_1 108 rfl) rfl rfl ?_
    refine ql_i2l (pc' := 467) (dk_at dkL_law_1 109 rfl) rfl ?_
    refine ql_lcmp1 (pc' := 468) (by rw [hf1 (by omega), hv (by omega)]) (dk_at dkL_law_1 110 rfl) rfl ?_
    refine ql_if_eq (tgt := 473) (pc' := 471) (dk_at dkL_law_1 111 rfl) (by decide) rfl (by decide) (fun _ => ?_) (fun z => absurd rfl z)
    refine ql_goto (tgt := 1495) (dk_at dkL_law_1 114 rfl) (by decide) ?_
    exact nx.go (by omega) (by omega) hfin
theorem ca_jobs {Z : SX} {F : FT} {k u i : Nat} {h : PH} (hZ : Z.2.1 ≤ 3072) (hi : i + 6 ≤ Z.2.1) (hk : k + 1 ≤ 601024) (hu : u + 6 ≤ 7293034) (hL : LwI h) (nx : Nx Z F k u i) : QQ Z F k u 476 (Lh i) [] h := by
  obtain ⟨⟨⟨S, P, kn, bs⟩, sv, x, tx, tl⟩, th, f, hI, hO, hM, hA⟩ := hL
  refine ql_aload_n (pc' := 477) (dk_at dkL_law_1 115 rfl) rfl rfl ?_
  refine rl_cVI (pc' := 480) (As := []) (S := []) cv_RL_100 (dk_at dkL_law_1 116 rfl) hI.1.obj rfl (k_BM_jobs (d := 20) (Nat.le_refl _) hI hO) (by decide) (by omega) (by omega) rfl (Nat.le_of_ble_eq_true rfl) rfl (Nat.le_of_ble_eq_true rfl) rfl ?_
  rintro v h1 ⟨hv, he⟩
  have hB : BMI 169 h1 0 ((S, P, kn, bs), sv, x, tx, tl) := by rw [he]; exact hI
  have hF : Fr h h1 0 149 := by rw [he]; exact Fr.rf
  have hO1 : BOk ((S, P, kn, bs), sv, x, tx, tl) := hO
  have hM1 : MOI 169 h1 149 th ((S, P, kn, bs), sv, x, tx, tl) := hM.fr (fun k k1 k2 => hF k (by omega))
  obtain ⟨fs1, hob1⟩ := hM1.obj
  refine ql_aload_n (pc' := 481) (dk_at dkL_law_1 117 rfl) rfl rfl ?_
  refine rl_cVI (pc' := 484) (As := []) (S := [vI v]) cv_RL_103 (dk_at dkL_law_1 118 rfl) hob1 rfl (k_M_jobs (d := 30) (Nat.le_refl _) hM1 hO1) (by decide) (by omega) (by omega) rfl (Nat.le_of_ble_eq_true rfl) rfl (Nat.le_of_ble_eq_true rfl) rfl ?_
  rintro v' h2 ⟨e, m, g⟩
  have hfin : LwI h2 := ⟨_, 0, f, hB.frm g (by omega), hO1, m, (hA.fr (hF 168 (by omega))).fr (g 168 (by omega))⟩
  refine ql_icmp1 (tgt := 1495) (hv.trans e.symm) (dk_at dkL_law_1 119 rfl) (by decide) ?_
  exact nx.go (by omega) (by omega) hfin
theorem ca_setSetup {Z : SX} {F : FT} {k u i : Nat} {h : PH} (hZ : Z.2.1 ≤ 3072) (hi : i + 6 ≤ Z.2.1) (hk : k + 1 ≤ 601024) (hu : u + 6 ≤ 7293034) (hL : LwI h) (nx : Nx Z F k u i) : QQ Z F k u 489 (Lh i) [] h := by
  obtain ⟨σ, th, f, hI, hO, hM, hA⟩ := hL
  refine ql_aload_n (pc' := 490) (dk_at dkL_law_2 2 rfl) rfl rfl ?_
  refine ql_arg (j := 1) (pc' := 496) rfl (by omega) (by omega) (dk_at dkL_law_2 3 rfl) (dk_at dkL_law_2 4 rfl) (dk_at dkL_law_2 5 rfl) (dk_at dkL_law_2 6 rfl) (dk_at dkL_law_2 7 rfl) rfl ?_
  refine ql_arg (j := 2) (pc' := 502) rfl (by omega) (by omega) (dk_at dkL_law_2 8 rfl) (dk_at dkL_law_2 9 rfl) (dk_at dkL_law_2 10 rfl) (dk_at dkL_law_2 11 rfl) (dk_at dkL_law_2 12 rfl) rfl ?_
  refine ql_arg (j := 3) (pc' := 508) rfl (by omega) (by omega) (dk_at dkL_law_2 13 rfl) (dk_at dkL_law_2 14 rfl) (dk_at dkL_law_2 15 rfl) (dk_at dkL_law_2 16 rfl) (dk_at dkL_law_2 17 rfl) rfl ?_
  refine ql_aload_n (pc' := 509) (dk_at dkL_law_2 18 rfl) rfl rfl ?_
  refine ql_callSW (pc' := 512) (As := [vR 0, vI (scI Z (i + 1)), vI (scI Z (i + 2)), vI (scI Z (i + 3)), vR 168]) (S := []) cs_RL_104 (dk_at dkL_law_2 19 rfl) (w_setSetup (d := 21) (Nat.le_refl _) hI hO hA (scI_ir _ _) (scI_ir _ _) (scI_ir _ _)) (by decide) hk hu rfl (Nat.le_of_ble_eq_true rfl) rfl (Nat.le_of_ble_eq_true rfl) rfl ?_
  rintro r n' h1 ⟨rfl, x, v, σ', rfl, hx, hMC, hI1, hO1, ⟨f1, hA1, hf1⟩, hc⟩
  have hM1 : MOI 169 h1 149 th σ := hM.fr (fun k k1 k2 => hc k k1 (by omega))
  obtain ⟨fs1, hob1⟩ := hM1.obj
  refine ql_istore (pc' := 514) (L' := [none, some (vR 0), some (vR 149), some (vR 168), some (vI (i : Int)), some (vI x), none, none]) (by decide) (dk_at dkL_law_2 20 rfl) (by decide) rfl rfl ?_
  refine ql_aload_n (pc' := 515) (dk_at dkL_law_2 21 rfl) rfl rfl ?_
  refine ql_arg (j := 1) (pc' := 521) rfl (by omega) (by omega) (dk_at dkL_law_2 22 rfl) (dk_at dkL_law_2 23 rfl) (dk_at dkL_law_2 24 rfl) (dk_at dkL_law_2 25 rfl) (dk_at dkL_law_2 26 rfl) rfl ?_
  refine ql_arg (j := 2) (pc' := 527) rfl (by omega) (by omega) (dk_at dkL_law_2 27 rfl) (dk_at dkL_law_2 28 rfl) (dk_at dkL_law_2 29 rfl) (dk_at dkL_law_2 30 rfl) (dk_at dkL_law_2 31 rfl) rfl ?_
  refine ql_arg (j := 3) (pc' := 533) rfl (by omega) (by omega) (dk_at dkL_law_2 32 rfl) (dk_at dkL_law_2 33 rfl) (dk_at dkL_law_2 34 rfl) (dk_at dkL_law_2 35 rfl) (dk_at dkL_law_2 36 rfl) rfl ?_
  refine rl_cVI (pc' := 536) (As := [vI (scI Z (i + 1)), vI (scI Z (i + 2)), vI (scI Z (i + 3))]) (S := []) cv_RL_106 (dk_at dkL_law_2 37 rfl) hob1 rfl (hMC 30 h1 th (Nat.le_refl _) hM1) (by decide) (by omega) (by omega) rfl (Nat.le_of_ble_eq_true rfl) rfl (Nat.le_of_ble_eq_true rfl) rfl ?_
  rintro v' h2 ⟨hv, hM2, hF2⟩
  obtain ⟨fs2, hob2⟩ := hM2.obj
  have hfin : LwI h2 := ⟨σ', x, f1, hI1.frm hF2 (by omega), hO1, hM2, hA1.fr (hF2 168 (by omega))⟩
  refine ql_istore (pc' := 538) (L' := [none, some (vR 0), some (vR 149), some (vR 168), some (vI (i : Int)), some (vI x), some (vI v'), none]) (by decide) (dk_at dkL_law_2 38 rfl) (by decide) rfl rfl ?_
  refine ql_aload_n (pc' := 539) (dk_at dkL_law_2 39 rfl) rfl rfl ?_
  refine rl_cVI (pc' := 542) (As := []) (S := []) cv_RL_85 (dk_at dkL_law_2 40 rfl) hob2 rfl (k_thr (d := 30) hM2) (by decide) (by omega) (by omega) rfl (Nat.le_of_ble_eq_true rfl) rfl (Nat.le_of_ble_eq_true rfl) rfl ?_
  rintro y h3 ⟨e3, ey⟩
  rw [e3]
  refine ql_iload (pc' := 544) (dk_at dkL_law_2 41 rfl) rfl rfl ?_
  refine ql_icmp1 (tgt := 549) ey (dk_at dkL_law_2 42 rfl) (by decide) ?_
  refine ql_iload (pc' := 551) (dk_at dkL_law_2 45 rfl) rfl rfl ?_
  refine ql_if_ne (tgt := 566) (pc' := 554) (dk_at dkL_law_2 46 rfl) (by decide) rfl (by omega) (fun z => ?_) (fun z => ?_)
  · refine ql_goto (tgt := 1495) (dk_at dkL_law_2 56 rfl) (by decide) ?_
    exact nx.go (by omega) (by omega) hfin
  · refine ql_aload_n (pc' := 555) (dk_at dkL_law_2 47 rfl) rfl rfl ?_
    refine ql_iconst (pc' := 556) (dk_at dkL_law_2 48 rfl) rfl ?_
    refine rl_lald (pc' := 557) (dk_at dkL_law_2 49 rfl) (hA1.fr (hF2 168 (by omega))) 0 rfl (by decide) (by decide) rfl ?_
    refine ql_iload (pc' := 559) (dk_at dkL_law_2 50 rfl) rfl rfl ?_
    refine ql_i2l (pc' := 560) (dk_at dkL_law_2 51 rfl) rfl ?_
    refine ql_lcmp1 (pc' := 561) (by rw [hf1 (by omega), hv (by omega)]) (dk_at dkL_law_2 52 rfl) rfl ?_
    refine ql_if_eq (tgt := 566) (pc' := 564) (dk_at dkL_law_2 53 rfl) (by decide) rfl (by decide) (fun _ => ?_) (fun z => absurd rfl z)
    refine ql_goto (tgt := 1495) (dk_at dkL_law_2 56 rfl) (by decide) ?_
    exact nx.go (by omega) (by omega) hfin
theorem ca_setMode {Z : SX} {F : FT} {k u i : Nat} {h : PH} (hZ : Z.2.1 ≤ 3072) (hi : i + 6 ≤ Z.2.1) (hk : k + 1 ≤ 601024) (hu : u + 6 ≤ 7293034) (hL : LwI h) (nx : Nx Z F k u i) : QQ Z F k u 569 (Lh i) [] h := by
  obtain ⟨⟨⟨S, P, kn, bs⟩, sv, x, tx, tl⟩, th, f, hI, hO, hM, hA⟩ := hL
  refine ql_aload_n (pc' := 570) (dk_at dkL_law_2 57 rfl) rfl rfl ?_
  refine ql_bool (j := 1) (pc' := 584) rfl (by omega) (by omega) (dk_at dkL_law_2 58 rfl) (dk_at dkL_law_2 59 rfl) (dk_at dkL_law_2 60 rfl) (dk_at dkL_law_2 61 rfl) (dk_at dkL_law_2 62 rfl) (dk_at dkL_law_2 63 rfl) (dk_at dkL_law_2 64 rfl) (dk_at dkL_law_2 65 rfl) (dk_at dkL_law_2 66 rfl) rfl ?_
  refine ql_bool (j := 2) (pc' := 598) rfl (by omega) (by omega) (dk_at dkL_law_2 67 rfl) (dk_at dkL_law_2 68 rfl) (dk_at dkL_law_2 69 rfl) (dk_at dkL_law_2 70 rfl) (dk_at dkL_law_2 71 rfl) (dk_at dkL_law_2 72 rfl) (dk_at dkL_law_2 73 rfl) (dk_at dkL_law_2 74 rfl) (dk_at dkL_law_2 75 rfl) rfl ?_
  refine rl_cVI (pc' := 601) (As := [vI (bz (scI Z (i + 1))), vI (bz (scI Z (i + 2)))]) (S := []) cv_RL_107 (dk_at dkL_law_2 76 rfl) hI.1.obj rfl (k_BM_setMode (d := 20) (Nat.le_refl _) hI hO (bz_01 _) (bz_01 _)) (by decide) (by omega) (by omega) rfl (Nat.le_of_ble_eq_true rfl) rfl (Nat.le_of_ble_eq_true rfl) rfl ?_
  rintro v h1 ⟨hv, hB, hF⟩
  have hO1 : BOk ((S.setM (bz (scI Z (i + 1))) (bz (scI Z (i + 2))), P, 0, bs), pshN sv, (pshX sv x (S, P, kn, bs)), tx, tl) := hO.psh hO.1 ⟨hO.1.1.setM (bz_01 _) (bz_01 _), hO.1.2.1, Bst0⟩
  have hM1 : MOI 169 h1 149 th ((S, P, kn, bs), sv, x, tx, tl) := hM.fr (fun k k1 k2 => hF k (by omega))
  obtain ⟨fs1, hob1⟩ := hM1.obj
  refine ql_aload_n (pc' := 602) (dk_at dkL_law_2 77 rfl) rfl rfl ?_
  refine ql_bool (j := 1) (pc' := 616) rfl (by omega) (by omega) (dk_at dkL_law_2 78 rfl) (dk_at dkL_law_2 79 rfl) (dk_at dkL_law_2 80 rfl) (dk_at dkL_law_2 81 rfl) (dk_at dkL_law_2 82 rfl) (dk_at dkL_law_2 83 rfl) (dk_at dkL_law_2 84 rfl) (dk_at dkL_law_2 85 rfl) (dk_at dkL_law_2 86 rfl) rfl ?_
  refine ql_bool (j := 2) (pc' := 630) rfl (by omega) (by omega) (dk_at dkL_law_2 87 rfl) (dk_at dkL_law_2 88 rfl) (dk_at dkL_law_2 89 rfl) (dk_at dkL_law_2 90 rfl) (dk_at dkL_law_2 91 rfl) (dk_at dkL_law_2 92 rfl) (dk_at dkL_law_2 93 rfl) (dk_at dkL_law_2 94 rfl) (dk_at dkL_law_2 95 rfl) rfl ?_
  refine rl_cVI (pc' := 633) (As := [vI (bz (scI Z (i + 1))), vI (bz (scI Z (i + 2)))]) (S := [vI v]) cv_RL_111 (dk_at dkL_law_2 96 rfl) hob1 rfl (k_M_setMode (d := 30) (Nat.le_refl _) hM1 hO (bz_01 _) (bz_01 _)) (by decide) (by omega) (by omega) rfl (Nat.le_of_ble_eq_true rfl) rfl (Nat.le_of_ble_eq_true rfl) rfl ?_
  rintro v' h2 ⟨e, m, g⟩
  have hfin : LwI h2 := ⟨_, 0, f, hB.frm g (by omega), hO1, m, (hA.fr (hF 168 (by omega))).fr (g 168 (by omega))⟩
  refine ql_icmp1 (tgt := 1495) (hv.trans e.symm) (dk_at dkL_law_2 97 rfl) (by decide) ?_
  exact nx.go (by omega) (by omega) hfin
theorem ca_setObjective {Z : SX} {F : FT} {k u i : Nat} {h : PH} (hZ : Z.2.1 ≤ 3072) (hi : i + 6 ≤ Z.2.1) (hk : k + 1 ≤ 601024) (hu : u + 6 ≤ 7293034) (hL : LwI h) (nx : Nx Z F k u i) : QQ Z F k u 638 (Lh i) [] h := by
  obtain ⟨σ, th, f, hI, hO, hM, hA⟩ := hL
  refine ql_aload_n (pc' := 639) (dk_at dkL_law_2 100 rfl) rfl rfl ?_
  refine ql_arg (j := 1) (pc' := 645) rfl (by omega) (by omega) (dk_at dkL_law_2 101 rfl) (dk_at dkL_law_2 102 rfl) (dk_at dkL_law_2 103 rfl) (dk_at dkL_law_2 104 rfl) (dk_at dkL_law_2 105 rfl) rfl ?_
  refine ql_aload_n (pc' := 646) (dk_at dkL_law_2 106 rfl) rfl rfl ?_
  refine ql_callSW (pc' := 649) (As := [vR 0, vI (scI Z (i + 1)), vR 168]) (S := []) cs_RL_112 (dk_at dkL_law_2 107 rfl) (w_setObjective (d := 21) (Nat.le_refl _) hI hO hA (scI_ir _ _)) (by decide) hk hu rfl (Nat.le_of_ble_eq_true rfl) rfl (Nat.le_of_ble_eq_true rfl) rfl ?_
  rintro r n' h1 ⟨rfl, x, v, σ', rfl, hx, hMC, hI1, hO1, ⟨f1, hA1, hf1⟩, hc⟩
  have hM1 : MOI 169 h1 149 th σ := hM.fr (fun k k1 k2 => hc k k1 (by omega))
  obtain ⟨fs1, hob1⟩ := hM1.obj
  refine ql_istore (pc' := 651) (L' := [none, some (vR 0), some (vR 149), some (vR 168), some (vI (i : Int)), some (vI x), none, none]) (by decide) (dk_at dkL_law_2 108 rfl) (by decide) rfl rfl ?_
  refine ql_aload_n (pc' := 652) (dk_at dkL_law_2 109 rfl) rfl rfl ?_
  refine ql_arg (j := 1) (pc' := 658) rfl (by omega) (by omega) (dk_at dkL_law_2 110 rfl) (dk_at dkL_law_2 111 rfl) (dk_at dkL_law_2 112 rfl) (dk_at dkL_law_2 113 rfl) (dk_at dkL_law_2 114 rfl) rfl ?_
  refine rl_cVI (pc' := 661) (As := [vI (scI Z (i + 1))]) (S := []) cv_RL_114 (dk_at dkL_law_2 115 rfl) hob1 rfl (hMC 30 h1 th (Nat.le_refl _) hM1) (by decide) (by omega) (by omega) rfl (Nat.le_of_ble_eq_true rfl) rfl (Nat.le_of_ble_eq_true rfl) rfl ?_
  rintro v' h2 ⟨hv, hM2, hF2⟩
  obtain ⟨fs2, hob2⟩ := hM2.obj
  have hfin : LwI h2 := ⟨σ', x, f1, hI1.frm hF2 (by omega), hO1, hM2, hA1.fr (hF2 168 (by omega))⟩
  refine ql_istore (pc' := 663) (L' := [none, some (vR 0), some (vR 149), some (vR 168), some (vI (i : Int)), some (vI x), some (vI v'), none]) (by decide) (dk_at dkL_law_2 116 rfl) (by decide) rfl rfl ?_
  refine ql_aload_n (pc' := 664) (dk_at dkL_law_2 117 rfl) rfl rfl ?_
  refine rl_cVI (pc' := 667) (As := []) (S := []) cv_RL_85 (dk_at dkL_law_2 118 rfl) hob2 rfl (k_thr (d := 30) hM2) (by decide) (by omega) (by omega) rfl (Nat.le_of_ble_eq_true rfl) rfl (Nat.le_of_ble_eq_true rfl) rfl ?_
  rintro y h3 ⟨e3, ey⟩
  rw [e3]
  refine ql_iload (pc' := 669) (dk_at dkL_law_2 119 rfl) rfl rfl ?_
  refine ql_icmp1 (tgt := 674) ey (dk_at dkL_law_3 0 rfl) (by decide) ?_
  refine ql_iload (pc' := 676) (dk_at dkL_law_3 3 rfl) rfl rfl ?_
  refine ql_if_ne (tgt := 691) (pc' := 679) (dk_at dkL_law_3 4 rfl) (by decide) rfl (by omega) (fun z => ?_) (fun z => ?_)
  · refine ql_goto (tgt := 1495) (dk_at dkL_law_3 14 rfl) (by decide) ?_
    exact nx.go (by omega) (by omega) hfin
  · refine ql_aload_n (pc' := 680) (dk_at dkL_law_3 5 rfl) rfl rfl ?_
    refine ql_iconst (pc' := 681) (dk_at dkL_law_3 6 rfl) rfl ?_
    refine rl_lald (pc' := 682) (dk_at dkL_law_3 7 rfl) (hA1.fr (hF2 168 (by omega))) 0 rfl (by decide) (by decide) rfl ?_
    refine ql_iload (pc' := 684) (dk_at dkL_law_3 8 rfl) rfl rfl ?_
    refine ql_i2l (pc' := 685) (dk_at dkL_law_3 9 rfl) rfl ?_
    refine ql_lcmp1 (pc' := 686) (by rw [hf1 (by omega), hv (by omega)]) (dk_at dkL_law_3 10 rfl) rfl ?_
    refine ql_if_eq (tgt := 691) (pc' := 689) (dk_at dkL_law_3 11 rfl) (by decide) rfl (by decide) (fun _ => ?_) (fun z => absurd rfl z)
    refine ql_goto (tgt := 1495) (dk_at dkL_law_3 14 rfl) (by decide) ?_
    exact nx.go (by omega) (by omega) hfin
theorem ca_append {Z : SX} {F : FT} {k u i : Nat} {h : PH} (hZ : Z.2.1 ≤ 3072) (hi : i + 6 ≤ Z.2.1) (hk : k + 1 ≤ 601024) (hu : u + 6 ≤ 7293034) (hL : LwI h) (nx : Nx Z F k u i) : QQ Z F k u 694 (Lh i) [] h := by
  obtain ⟨σ, th, f, hI, hO, hM, hA⟩ := hL
  refine ql_aload_n (pc' := 695) (dk_at dkL_law_3 15 rfl) rfl rfl ?_
  refine ql_arg (j := 1) (pc' := 701) rfl (by omega) (by omega) (dk_at dkL_law_3 16 rfl) (dk_at dkL_law_3 17 rfl) (dk_at dkL_law_3 18 rfl) (dk_at dkL_law_3 19 rfl) (dk_at dkL_law_3 20 rfl) rfl ?_
  refine ql_aload_n (pc' := 702) (dk_at dkL_law_3 21 rfl) rfl rfl ?_
  refine ql_callSW (pc' := 705) (As := [vR 0, vI (scI Z (i + 1)), vR 168]) (S := []) cs_RL_115 (dk_at dkL_law_3 22 rfl) (w_append (d := 21) (Nat.le_refl _) hI hO hA (scI_ir _ _)) (by decide) hk hu rfl (Nat.le_of_ble_eq_true rfl) rfl (Nat.le_of_ble_eq_true rfl) rfl ?_
  rintro r n' h1 ⟨rfl, x, v, σ', rfl, hx, hMC, hI1, hO1, ⟨f1, hA1, hf1⟩, hc⟩
  have hM1 : MOI 169 h1 149 th σ := hM.fr (fun k k1 k2 => hc k k1 (by omega))
  obtain ⟨fs1, hob1⟩ := hM1.obj
  refine ql_istore (pc' := 707) (L' := [none, some (vR 0), some (vR 149), some (vR 168), some (vI (i : Int)), some (vI x), none, none]) (by decide) (dk_at dkL_law_3 23 rfl) (by decide) rfl rfl ?_
  refine ql_aload_n (pc' := 708) (dk_at dkL_law_3 24 rfl) rfl rfl ?_
  refine ql_arg (j := 1) (pc' := 714) rfl (by omega) (by omega) (dk_at dkL_law_3 25 rfl) (dk_at dkL_law_3 26 rfl) (dk_at dkL_law_3 27 rfl) (dk_at dkL_law_3 28 rfl) (dk_at dkL_law_3 29 rfl) rfl ?_
  refine rl_cVI (pc' := 717) (As := [vI (scI Z (i + 1))]) (S := []) cv_RL_117 (dk_at dkL_law_3 30 rfl) hob1 rfl (hMC 30 h1 th (Nat.le_refl _) hM1) (by decide) (by omega) (by omega) rfl (Nat.le_of_ble_eq_true rfl) rfl (Nat.le_of_ble_eq_true rfl) rfl ?_
  rintro v' h2 ⟨hv, hM2, hF2⟩
  obtain ⟨fs2, hob2⟩ := hM2.obj
  have hfin : LwI h2 := ⟨σ', x, f1, hI1.frm hF2 (by omega), hO1, hM2, hA1.fr (hF2 168 (by omega))⟩
  refine ql_istore (pc' := 719) (L' := [none, some (vR 0), some (vR 149), some (vR 168), some (vI (i : Int)), some (vI x), some (vI v'), none]) (by decide) (dk_at dkL_law_3 31 rfl) (by decide) rfl rfl ?_
  refine ql_aload_n (pc' := 720) (dk_at dkL_law_3 32 rfl) rfl rfl ?_
  refine rl_cVI (pc' := 723) (As := []) (S := []) cv_RL_85 (dk_at dkL_law_3 33 rfl) hob2 rfl (k_thr (d := 30) hM2) (by decide) (by omega) (by omega) rfl (Nat.le_of_ble_eq_true rfl) rfl (Nat.le_of_ble_eq_true rfl) rfl ?_
  rintro y h3 ⟨e3, ey⟩
  rw [e3]
  refine ql_iload (pc' := 725) (dk_at dkL_law_3 34 rfl) rfl rfl ?_
  refine ql_icmp1 (tgt := 730) ey (dk_at dkL_law_3 35 rfl) (by decide) ?_
  refine ql_iload (pc' := 732) (dk_at dkL_law_3 38 rfl) rfl rfl ?_
  refine ql_if_ne (tgt := 747) (pc' := 735) (dk_at dkL_law_3 39 rfl) (by decide) rfl (by omega) (fun z => ?_) (fun z => ?_)
  · refine ql_goto (tgt := 1495) (dk_at dkL_law_3 49 rfl) (by decide) ?_
    exact nx.go (by omega) (by omega) hfin
  · refine ql_aload_n (pc' := 736) (dk_at dkL_law_3 40 rfl) rfl rfl ?_
    refine ql_iconst (pc' := 737) (dk_at dkL_law_3 41 rfl) rfl ?_
    refine rl_lald (pc' := 738) (dk_at dkL_law_3 42 rfl) (hA1.fr (hF2 168 (by omega))) 0 rfl (by decide) (by decide) rfl ?_
    refine ql_iload (pc' := 740) (dk_at dkL_law_3 43 rfl) rfl rfl ?_
    refine ql_i2l (pc' := 741) (dk_at dkL_law_3 44 rfl) rfl ?_
    refine ql_lcmp1 (pc' := 742) (by rw [hf1 (by omega), hv (by omega)]) (dk_at dkL_law_3 45 rfl) rfl ?_
    refine ql_if_eq (tgt := 747) (pc' := 745) (dk_at dkL_law_3 46 rfl) (by decide) rfl (by decide) (fun _ => ?_) (fun z => absurd rfl z)
    refine ql_goto (tgt := 1495) (dk_at dkL_law_3 49 rfl) (by decide) ?_
    exact nx.go (by omega) (by omega) hfin
theorem ca_clearText {Z : SX} {F : FT} {k u i : Nat} {h : PH} (hZ : Z.2.1 ≤ 3072) (hi : i + 6 ≤ Z.2.1) (hk : k + 1 ≤ 601024) (hu : u + 6 ≤ 7293034) (hL : LwI h) (nx : Nx Z F k u i) : QQ Z F k u 750 (Lh i) [] h := by
  obtain ⟨⟨⟨S, P, kn, bs⟩, sv, x, tx, tl⟩, th, f, hI, hO, hM, hA⟩ := hL
  refine ql_aload_n (pc' := 751) (dk_at dkL_law_3 50 rfl) rfl rfl ?_
  refine rl_cVI (pc' := 754) (As := []) (S := []) cv_RL_118 (dk_at dkL_law_3 51 rfl) hI.1.obj rfl (k_BM_clearText (d := 20) hI.1) (by decide) (by omega) (by omega) rfl (Nat.le_of_ble_eq_true rfl) rfl (Nat.le_of_ble_eq_true rfl) rfl ?_
  rintro v h1 ⟨hv, hB0, hF0⟩
  have hB : BMI 169 h1 0 ((S, P, kn, bs), sv, x, tx, 0) := ⟨hB0, hI.2.1.frm hF0 (by omega), hI.2.2.1.frm hF0 (by omega), hI.2.2.2.frm hF0 (by omega)⟩
  have hF : Fr h h1 0 149 := fun k hk => hF0 k (by omega)
  have hO1 : BOk ((S, P, kn, bs), sv, x, tx, 0) := hO.clr
  have hM1 : MOI 169 h1 149 th ((S, P, kn, bs), sv, x, tx, tl) := hM.fr (fun k k1 k2 => hF k (by omega))
  obtain ⟨fs1, hob1⟩ := hM1.obj
  refine ql_aload_n (pc' := 755) (dk_at dkL_law_3 52 rfl) rfl rfl ?_
  refine rl_cVI (pc' := 758) (As := []) (S := [vI v]) cv_RL_121 (dk_at dkL_law_3 53 rfl) hob1 rfl (k_M_clearText (d := 30) (Nat.le_refl _) hM1 hO) (by decide) (by omega) (by omega) rfl (Nat.le_of_ble_eq_true rfl) rfl (Nat.le_of_ble_eq_true rfl) rfl ?_
  rintro v' h2 ⟨e, m, g⟩
  have hfin : LwI h2 := ⟨_, 0, f, hB.frm g (by omega), hO1, m, (hA.fr (hF 168 (by omega))).fr (g 168 (by omega))⟩
  refine ql_icmp1 (tgt := 1495) (hv.trans e.symm) (dk_at dkL_law_3 54 rfl) (by decide) ?_
  exact nx.go (by omega) (by omega) hfin
theorem ca_parse {Z : SX} {F : FT} {k u i : Nat} {h : PH} (hZ : Z.2.1 ≤ 3072) (hi : i + 6 ≤ Z.2.1) (hk : k + 1 ≤ 601024) (hu : u + 6 ≤ 7293034) (hL : LwI h) (nx : Nx Z F k u i) : QQ Z F k u 763 (Lh i) [] h := by
  obtain ⟨⟨⟨S, P, kn, bs⟩, sv, x, tx, tl⟩, th, f, hI, hO, hM, hA⟩ := hL
  refine ql_aload_n (pc' := 764) (dk_at dkL_law_3 57 rfl) rfl rfl ?_
  refine rl_cVI (pc' := 767) (As := []) (S := []) cv_RL_122 (dk_at dkL_law_3 58 rfl) hI.1.obj rfl (k_BM_parse (d := 20) (Nat.le_refl _) hI hO) (by decide) (by omega) (by omega) rfl (Nat.le_of_ble_eq_true rfl) rfl (Nat.le_of_ble_eq_true rfl) rfl ?_
  rintro v h1 ⟨o, e, v0, hO7, hrd, hcl⟩
  have hq : ∃ σ' : CS, BMI 169 h1 0 σ' ∧ BOk σ' ∧ Fr h h1 0 149 ∧ (∀ h2 : PH, MOI 169 h2 149 th ((S, P, kn, bs), sv, x, tx, tl) → CtrI mX6_parse 30 [vR 149] 169 h2 (fun v' h' => v = v' ∧ MOI 169 h' 149 0 σ' ∧ Fr h2 h' 149 168)) := by
    rcases hcl with ⟨n0, hv, hB, hF⟩ | ⟨n0, hv, hB, hF⟩
    · refine ⟨_, hB, hO, hF, fun h2 hM2 => (k_M_parse (Nat.le_refl _) hM2 hO hO7 hrd).mono (fun v' h3 hp => ?_)⟩
      rcases hp with ⟨m0, e, m, g⟩ | ⟨m0, e, m, g⟩
      · exact ⟨by rw [e, hv], m, g⟩
      · exact absurd m0 n0
    · refine ⟨_, hB, hO.psh hO.1 ⟨hO.1.1, rd_pl hO.1.1.c hO7 (by rw [← n0]; exact hrd), hO.1.2.2⟩, hF, fun h2 hM2 => (k_M_parse (Nat.le_refl _) hM2 hO hO7 hrd).mono (fun v' h3 hp => ?_)⟩
      rcases hp with ⟨m0, e, m, g⟩ | ⟨m0, e, m, g⟩
      · exact absurd n0 m0
      · exact ⟨by rw [e, hv], m, g⟩
  obtain ⟨σ', hB, hO1, hF, hmod⟩ := hq
  have hM1 : MOI 169 h1 149 th ((S, P, kn, bs), sv, x, tx, tl) := hM.fr (fun k k1 k2 => hF k (by omega))
  obtain ⟨fs1, hob1⟩ := hM1.obj
  refine ql_aload_n (pc' := 768) (dk_at dkL_law_3 59 rfl) rfl rfl ?_
  refine rl_cVI (pc' := 771) (As := []) (S := [vI v]) cv_RL_125 (dk_at dkL_law_3 60 rfl) hob1 rfl (hmod h1 hM1) (by decide) (by omega) (by omega) rfl (Nat.le_of_ble_eq_true rfl) rfl (Nat.le_of_ble_eq_true rfl) rfl ?_
  rintro v' h2 ⟨ev, m, g⟩
  have hfin : LwI h2 := ⟨_, 0, f, hB.frm g (by omega), hO1, m, (hA.fr (hF 168 (by omega))).fr (g 168 (by omega))⟩
  refine ql_icmp1 (tgt := 1495) ev (dk_at dkL_law_3 61 rfl) (by decide) ?_
  exact nx.go (by omega) (by omega) hfin
theorem ca_keepRule {Z : SX} {F : FT} {k u i : Nat} {h : PH} (hZ : Z.2.1 ≤ 3072) (hi : i + 6 ≤ Z.2.1) (hk : k + 1 ≤ 601024) (hu : u + 6 ≤ 7293034) (hL : LwI h) (nx : Nx Z F k u i) : QQ Z F k u 776 (Lh i) [] h := by
  obtain ⟨σ, th, f, hI, hO, hM, hA⟩ := hL
  refine ql_aload_n (pc' := 777) (dk_at dkL_law_3 64 rfl) rfl rfl ?_
  refine ql_arg (j := 1) (pc' := 783) rfl (by omega) (by omega) (dk_at dkL_law_3 65 rfl) (dk_at dkL_law_3 66 rfl) (dk_at dkL_law_3 67 rfl) (dk_at dkL_law_3 68 rfl) (dk_at dkL_law_3 69 rfl) rfl ?_
  refine ql_aload_n (pc' := 784) (dk_at dkL_law_3 70 rfl) rfl rfl ?_
  refine ql_callSW (pc' := 787) (As := [vR 0, vI (scI Z (i + 1)), vR 168]) (S := []) cs_RL_126 (dk_at dkL_law_3 71 rfl) (w_keepRule (d := 21) (Nat.le_refl _) hI hO hA (scI_ir _ _)) (by decide) hk hu rfl (Nat.le_of_ble_eq_true rfl) rfl (Nat.le_of_ble_eq_true rfl) rfl ?_
  rintro r n' h1 ⟨rfl, x, v, σ', rfl, hx, hMC, hI1, hO1, ⟨f1, hA1, hf1⟩, hc⟩
  have hM1 : MOI 169 h1 149 th σ := hM.fr (fun k k1 k2 => hc k k1 (by omega))
  obtain ⟨fs1, hob1⟩ := hM1.obj
  refine ql_istore (pc' := 789) (L' := [none, some (vR 0), some (vR 149), some (vR 168), some (vI (i : Int)), some (vI x), none, none]) (by decide) (dk_at dkL_law_3 72 rfl) (by decide) rfl rfl ?_
  refine ql_aload_n (pc' := 790) (dk_at dkL_law_3 73 rfl) rfl rfl ?_
  refine ql_arg (j := 1) (pc' := 796) rfl (by omega) (by omega) (dk_at dkL_law_3 74 rfl) (dk_at dkL_law_3 75 rfl) (dk_at dkL_law_3 76 rfl) (dk_at dkL_law_3 77 rfl) (dk_at dkL_law_3 78 rfl) rfl ?_
  refine rl_cVJ (pc' := 799) (As := [vI (scI Z (i + 1))]) (S := []) cv_RL_128 (dk_at dkL_law_3 79 rfl) hob1 rfl (hMC 30 h1 th (Nat.le_refl _) hM1) (by decide) (by omega) (by omega) rfl (Nat.le_of_ble_eq_true rfl) rfl (Nat.le_of_ble_eq_true rfl) rfl ?_
  rintro v' h2 ⟨hv, hM2, hF2⟩
  obtain ⟨fs2, hob2⟩ := hM2.obj
  have hfin : LwI h2 := ⟨σ', x, f1, hI1.frm hF2 (by omega), hO1, hM2, hA1.fr (hF2 168 (by omega))⟩
  refine ql_lstore (pc' := 801) (L' := [none, some (vR 0), some (vR 149), some (vR 168), some (vI (i : Int)), some (vI x), some (vJ v'), none]) (by decide) (dk_at dkL_law_3 80 rfl) (by decide) rfl rfl ?_
  refine ql_aload_n (pc' := 802) (dk_at dkL_law_3 81 rfl) rfl rfl ?_
  refine rl_cVI (pc' := 805) (As := []) (S := []) cv_RL_85 (dk_at dkL_law_3 82 rfl) hob2 rfl (k_thr (d := 30) hM2) (by decide) (by omega) (by omega) rfl (Nat.le_of_ble_eq_true rfl) rfl (Nat.le_of_ble_eq_true rfl) rfl ?_
  rintro y h3 ⟨e3, ey⟩
  rw [e3]
  refine ql_iload (pc' := 807) (dk_at dkL_law_3 83 rfl) rfl rfl ?_
  refine ql_icmp1 (tgt := 812) ey (dk_at dkL_law_3 84 rfl) (by decide) ?_
  refine ql_iload (pc' := 814) (dk_at dkL_law_3 87 rfl) rfl rfl ?_
  refine ql_if_ne (tgt := 828) (pc' := 817) (dk_at dkL_law_3 88 rfl) (by decide) rfl (by omega) (fun z => ?_) (fun z => ?_)
  · refine ql_goto (tgt := 1495) (dk_at dkL_law_3 97 rfl) (by decide) ?_
    exact nx.go (by omega) (by omega) hfin
  · refine ql_aload_n (pc' := 818) (dk_at dkL_law_3 89 rfl) rfl rfl ?_
    refine ql_iconst (pc' := 819) (dk_at dkL_law_3 90 rfl) rfl ?_
    refine rl_lald (pc' := 820) (dk_at dkL_law_3 91 rfl) (hA1.fr (hF2 168 (by omega))) 0 rfl (by decide) (by decide) rfl ?_
    refine ql_lload (pc' := 822) (dk_at dkL_law_3 92 rfl) rfl rfl ?_
    refine ql_lcmp1 (pc' := 823) (by rw [hf1 (by omega), hv (by omega)]) (dk_at dkL_law_3 93 rfl) rfl ?_
    refine ql_if_eq (tgt := 828) (pc' := 826) (dk_at dkL_law_3 94 rfl) (by decide) rfl (by decide) (fun _ => ?_) (fun z => absurd rfl z)
    refine ql_goto (tgt := 1495) (dk_at dkL_law_3 97 rfl) (by decide) ?_
    exact nx.go (by omega) (by omega) hfin
theorem ca_keepBest {Z : SX} {F : FT} {k u i : Nat} {h : PH} (hZ : Z.2.1 ≤ 3072) (hi : i + 6 ≤ Z.2.1) (hk : k + 1 ≤ 601024) (hu : u + 6 ≤ 7293034) (hL : LwI h) (nx : Nx Z F k u i) : QQ Z F k u 831 (Lh i) [] h := by
  obtain ⟨⟨⟨S, P, kn, bs⟩, sv, x, tx, tl⟩, th, f, hI, hO, hM, hA⟩ := hL
  refine ql_aload_n (pc' := 832) (dk_at dkL_law_3 98 rfl) rfl rfl ?_
  refine rl_cVJ (pc' := 835) (As := []) (S := []) cv_RL_129 (dk_at dkL_law_3 99 rfl) hI.1.obj rfl (k_BM_keepBest (d := 20) (Nat.le_refl _) hI hO) (by decide) (by omega) (by omega) rfl (Nat.le_of_ble_eq_true rfl) rfl (Nat.le_of_ble_eq_true rfl) rfl ?_
  rintro v h1 ⟨hv, ts, m9, kn', bs', hbst, hBP, hB, hF⟩
  have hO1 : BOk ((S, wrP S ts m9 P.od P.en, kn', bs'), pshN sv, (pshX sv x (S, P, kn', bs')), tx, tl) := (hO.cur (c' := (S, P, kn', bs')) ⟨hO.1.1, hO.1.2.1, hbst⟩).psh ⟨hO.1.1, hO.1.2.1, hbst⟩ ⟨hO.1.1, (best_ok hO.1.1 hBP hO.1.2.1.2.2.1).1, hbst⟩
  have hM1 : MOI 169 h1 149 th ((S, P, kn', bs'), sv, x, tx, tl) := hM.fr (fun k k1 k2 => hF k (by omega))
  obtain ⟨fs1, hob1⟩ := hM1.obj
  refine ql_aload_n (pc' := 836) (dk_at dkL_law_3 100 rfl) rfl rfl ?_
  refine rl_cVJ (pc' := 839) (As := []) (S := [vJ v]) cv_RL_133 (dk_at dkL_law_3 101 rfl) hob1 rfl (k_M_keepBest (d := 30) (kn := kn') (bs := bs') (Nat.le_refl _) hM1 (hO.cur (c' := (S, P, kn', bs')) ⟨hO.1.1, hO.1.2.1, hbst⟩) hBP) (by decide) (by omega) (by omega) rfl (Nat.le_of_ble_eq_true rfl) rfl (Nat.le_of_ble_eq_true rfl) rfl ?_
  rintro v' h2 ⟨e, m, g⟩
  have hfin : LwI h2 := ⟨_, 0, f, hB.frm g (by omega), hO1, m, (hA.fr (hF 168 (by omega))).fr (g 168 (by omega))⟩
  refine ql_lcmp1 (pc' := 840) (hv.trans e.symm) (dk_at dkL_law_3 102 rfl) rfl ?_
  refine ql_if_eq (tgt := 1495) (pc' := 843) (dk_at dkL_law_3 103 rfl) (by decide) rfl (by decide) (fun _ => ?_) (fun z => absurd rfl z)
  exact nx.go (by omega) (by omega) hfin
theorem ca_improve {Z : SX} {F : FT} {k u i : Nat} {h : PH} (hZ : Z.2.1 ≤ 3072) (hi : i + 6 ≤ Z.2.1) (hk : k + 1 ≤ 601024) (hu : u + 6 ≤ 7293034) (hL : LwI h) (nx : Nx Z F k u i) : QQ Z F k u 845 (Lh i) [] h := by
  obtain ⟨σ, th, f, hI, hO, hM, hA⟩ := hL
  refine ql_aload_n (pc' := 846) (dk_at dkL_law_3 106 rfl) rfl rfl ?_
  refine ql_arg (j := 1) (pc' := 852) rfl (by omega) (by omega) (dk_at dkL_law_3 107 rfl) (dk_at dkL_law_3 108 rfl) (dk_at dkL_law_3 109 rfl) (dk_at dkL_law_3 110 rfl) (dk_at dkL_law_3 111 rfl) rfl ?_
  refine ql_aload_n (pc' := 853) (dk_at dkL_law_3 112 rfl) rfl rfl ?_
  refine ql_callSW (pc' := 856) (As := [vR 0, vI (scI Z (i + 1)), vR 168]) (S := []) cs_RL_134 (dk_at dkL_law_3 113 rfl) (w_improve (d := 21) (Nat.le_refl _) hI hO hA (scI_ir _ _)) (by decide) hk hu rfl (Nat.le_of_ble_eq_true rfl) rfl (Nat.le_of_ble_eq_true rfl) rfl ?_
  rintro r n' h1 ⟨rfl, x, v, σ', rfl, hx, hMC, hI1, hO1, ⟨f1, hA1, hf1⟩, hc⟩
  have hM1 : MOI 169 h1 149 th σ := hM.fr (fun k k1 k2 => hc k k1 (by omega))
  obtain ⟨fs1, hob1⟩ := hM1.obj
  refine ql_istore (pc' := 858) (L' := [none, some (vR 0), some (vR 149), some (vR 168), some (vI (i : Int)), some (vI x), none, none]) (by decide) (dk_at dkL_law_3 114 rfl) (by decide) rfl rfl ?_
  refine ql_aload_n (pc' := 859) (dk_at dkL_law_3 115 rfl) rfl rfl ?_
  refine ql_arg (j := 1) (pc' := 865) rfl (by omega) (by omega) (dk_at dkL_law_3 116 rfl) (dk_at dkL_law_3 117 rfl) (dk_at dkL_law_3 118 rfl) (dk_at dkL_law_3 119 rfl) (dk_at dkL_law_4 0 rfl) rfl ?_
  refine rl_cVI (pc' := 868) (As := [vI (scI Z (i + 1))]) (S := []) cv_RL_136 (dk_at dkL_law_4 1 rfl) hob1 rfl (hMC 30 h1 th (Nat.le_refl _) hM1) (by decide) (by omega) (by omega) rfl (Nat.le_of_ble_eq_true rfl) rfl (Nat.le_of_ble_eq_true rfl) rfl ?_
  rintro v' h2 ⟨hv, hM2, hF2⟩
  obtain ⟨fs2, hob2⟩ := hM2.obj
  have hfin : LwI h2 := ⟨σ', x, f1, hI1.frm hF2 (by omega), hO1, hM2, hA1.fr (hF2 168 (by omega))⟩
  refine ql_istore (pc' := 870) (L' := [none, some (vR 0), some (vR 149), some (vR 168), some (vI (i : Int)), some (vI x), some (vI v'), none]) (by decide) (dk_at dkL_law_4 2 rfl) (by decide) rfl rfl ?_
  refine ql_aload_n (pc' := 871) (dk_at dkL_law_4 3 rfl) rfl rfl ?_
  refine rl_cVI (pc' := 874) (As := []) (S := []) cv_RL_85 (dk_at dkL_law_4 4 rfl) hob2 rfl (k_thr (d := 30) hM2) (by decide) (by omega) (by omega) rfl (Nat.le_of_ble_eq_true rfl) rfl (Nat.le_of_ble_eq_true rfl) rfl ?_
  rintro y h3 ⟨e3, ey⟩
  rw [e3]
  refine ql_iload (pc' := 876) (dk_at dkL_law_4 5 rfl) rfl rfl ?_
  refine ql_icmp1 (tgt := 881) ey (dk_at dkL_law_4 6 rfl) (by decide) ?_
  refine ql_iload (pc' := 883) (dk_at dkL_law_4 9 rfl) rfl rfl ?_
  refine ql_if_ne (tgt := 898) (pc' := 886) (dk_at dkL_law_4 10 rfl) (by decide) rfl (by omega) (fun z => ?_) (fun z => ?_)
  · refine ql_goto (tgt := 1495) (dk_at dkL_law_4 20 rfl) (by decide) ?_
    exact nx.go (by omega) (by omega) hfin
  · refine ql_aload_n (pc' := 887) (dk_at dkL_law_4 11 rfl) rfl rfl ?_
    refine ql_iconst (pc' := 888) (dk_at dkL_law_4 12 rfl) rfl ?_
    refine rl_lald (pc' := 889) (dk_at dkL_law_4 13 rfl) (hA1.fr (hF2 168 (by omega))) 0 rfl (by decide) (by decide) rfl ?_
    refine ql_iload (pc' := 891) (dk_at dkL_law_4 14 rfl) rfl rfl ?_
    refine ql_i2l (pc' := 892) (dk_at dkL_law_4 15 rfl) rfl ?_
    refine ql_lcmp1 (pc' := 893) (by rw [hf1 (by omega), hv (by omega)]) (dk_at dkL_law_4 16 rfl) rfl ?_
    refine ql_if_eq (tgt := 898) (pc' := 896) (dk_at dkL_law_4 17 rfl) (by decide) rfl (by decide) (fun _ => ?_) (fun z => absurd rfl z)
    refine ql_goto (tgt := 1495) (dk_at dkL_law_4 20 rfl) (by decide) ?_
    exact nx.go (by omega) (by omega) hfin
theorem ca_batches {Z : SX} {F : FT} {k u i : Nat} {h : PH} (hZ : Z.2.1 ≤ 3072) (hi : i + 6 ≤ Z.2.1) (hk : k + 1 ≤ 601024) (hu : u + 6 ≤ 7293034) (hL : LwI h) (nx : Nx Z F k u i) : QQ Z F k u 901 (Lh i) [] h := by
  obtain ⟨⟨⟨S, P, kn, bs⟩, sv, x, tx, tl⟩, th, f, hI, hO, hM, hA⟩ := hL
  refine ql_aload_n (pc' := 902) (dk_at dkL_law_4 21 rfl) rfl rfl ?_
  refine rl_cVI (pc' := 905) (As := []) (S := []) cv_RL_137 (dk_at dkL_law_4 22 rfl) hI.1.obj rfl (k_BM_batches (d := 20) (Nat.le_refl _) hI hO) (by decide) (by omega) (by omega) rfl (Nat.le_of_ble_eq_true rfl) rfl (Nat.le_of_ble_eq_true rfl) rfl ?_
  rintro v h1 ⟨hv, he⟩
  have hB : BMI 169 h1 0 ((S, P, kn, bs), sv, x, tx, tl) := by rw [he]; exact hI
  have hF : Fr h h1 0 149 := by rw [he]; exact Fr.rf
  have hO1 : BOk ((S, P, kn, bs), sv, x, tx, tl) := hO
  have hM1 : MOI 169 h1 149 th ((S, P, kn, bs), sv, x, tx, tl) := hM.fr (fun k k1 k2 => hF k (by omega))
  obtain ⟨fs1, hob1⟩ := hM1.obj
  refine ql_aload_n (pc' := 906) (dk_at dkL_law_4 23 rfl) rfl rfl ?_
  refine rl_cVI (pc' := 909) (As := []) (S := [vI v]) cv_RL_140 (dk_at dkL_law_4 24 rfl) hob1 rfl (k_M_batches (d := 30) (Nat.le_refl _) hM1 hO1) (by decide) (by omega) (by omega) rfl (Nat.le_of_ble_eq_true rfl) rfl (Nat.le_of_ble_eq_true rfl) rfl ?_
  rintro v' h2 ⟨e, m, g⟩
  have hfin : LwI h2 := ⟨_, 0, f, hB.frm g (by omega), hO1, m, (hA.fr (hF 168 (by omega))).fr (g 168 (by omega))⟩
  refine ql_icmp1 (tgt := 1495) (hv.trans e.symm) (dk_at dkL_law_4 25 rfl) (by decide) ?_
  exact nx.go (by omega) (by omega) hfin
theorem ca_batch {Z : SX} {F : FT} {k u i : Nat} {h : PH} (hZ : Z.2.1 ≤ 3072) (hi : i + 6 ≤ Z.2.1) (hk : k + 1 ≤ 601024) (hu : u + 6 ≤ 7293034) (hL : LwI h) (nx : Nx Z F k u i) : QQ Z F k u 914 (Lh i) [] h := by
  obtain ⟨σ, th, f, hI, hO, hM, hA⟩ := hL
  refine ql_aload_n (pc' := 915) (dk_at dkL_law_4 28 rfl) rfl rfl ?_
  refine ql_arg (j := 1) (pc' := 921) rfl (by omega) (by omega) (dk_at dkL_law_4 29 rfl) (dk_at dkL_law_4 30 rfl) (dk_at dkL_law_4 31 rfl) (dk_at dkL_law_4 32 rfl) (dk_at dkL_law_4 33 rfl) rfl ?_
  refine ql_arg (j := 2) (pc' := 927) rfl (by omega) (by omega) (dk_at dkL_law_4 34 rfl) (dk_at dkL_law_4 35 rfl) (dk_at dkL_law_4 36 rfl) (dk_at dkL_law_4 37 rfl) (dk_at dkL_law_4 38 rfl) rfl ?_
  refine ql_aload_n (pc' := 928) (dk_at dkL_law_4 39 rfl) rfl rfl ?_
  refine ql_callSW (pc' := 931) (As := [vR 0, vI (scI Z (i + 1)), vI (scI Z (i + 2)), vR 168]) (S := []) cs_RL_141 (dk_at dkL_law_4 40 rfl) (w_batch (d := 21) (Nat.le_refl _) hI hO hA (scI_ir _ _) (scI_ir _ _)) (by decide) hk hu rfl (Nat.le_of_ble_eq_true rfl) rfl (Nat.le_of_ble_eq_true rfl) rfl ?_
  rintro r n' h1 ⟨rfl, x, v, σ', rfl, hx, hMC, hI1, hO1, ⟨f1, hA1, hf1⟩, hc⟩
  have hM1 : MOI 169 h1 149 th σ := hM.fr (fun k k1 k2 => hc k k1 (by omega))
  obtain ⟨fs1, hob1⟩ := hM1.obj
  refine ql_istore (pc' := 933) (L' := [none, some (vR 0), some (vR 149), some (vR 168), some (vI (i : Int)), some (vI x), none, none]) (by decide) (dk_at dkL_law_4 41 rfl) (by decide) rfl rfl ?_
  refine ql_aload_n (pc' := 934) (dk_at dkL_law_4 42 rfl) rfl rfl ?_
  refine ql_arg (j := 1) (pc' := 940) rfl (by omega) (by omega) (dk_at dkL_law_4 43 rfl) (dk_at dkL_law_4 44 rfl) (dk_at dkL_law_4 45 rfl) (dk_at dkL_law_4 46 rfl) (dk_at dkL_law_4 47 rfl) rfl ?_
  refine ql_arg (j := 2) (pc' := 946) rfl (by omega) (by omega) (dk_at dkL_law_4 48 rfl) (dk_at dkL_law_4 49 rfl) (dk_at dkL_law_4 50 rfl) (dk_at dkL_law_4 51 rfl) (dk_at dkL_law_4 52 rfl) rfl ?_
  refine rl_cVI (pc' := 949) (As := [vI (scI Z (i + 1)), vI (scI Z (i + 2))]) (S := []) cv_RL_143 (dk_at dkL_law_4 53 rfl) hob1 rfl (hMC 30 h1 th (Nat.le_refl _) hM1) (by decide) (by omega) (by omega) rfl (Nat.le_of_ble_eq_true rfl) rfl (Nat.le_of_ble_eq_true rfl) rfl ?_
  rintro v' h2 ⟨hv, hM2, hF2⟩
  obtain ⟨fs2, hob2⟩ := hM2.obj
  have hfin : LwI h2 := ⟨σ', x, f1, hI1.frm hF2 (by omega), hO1, hM2, hA1.fr (hF2 168 (by omega))⟩
  refine ql_istore (pc' := 951) (L' := [none, some (vR 0), some (vR 149), some (vR 168), some (vI (i : Int)), some (vI x), some (vI v'), none]) (by decide) (dk_at dkL_law_4 54 rfl) (by decide) rfl rfl ?_
  refine ql_aload_n (pc' := 952) (dk_at dkL_law_4 55 rfl) rfl rfl ?_
  refine rl_cVI (pc' := 955) (As := []) (S := []) cv_RL_85 (dk_at dkL_law_4 56 rfl) hob2 rfl (k_thr (d := 30) hM2) (by decide) (by omega) (by omega) rfl (Nat.le_of_ble_eq_true rfl) rfl (Nat.le_of_ble_eq_true rfl) rfl ?_
  rintro y h3 ⟨e3, ey⟩
  rw [e3]
  refine ql_iload (pc' := 957) (dk_at dkL_law_4 57 rfl) rfl rfl ?_
  refine ql_icmp1 (tgt := 962) ey (dk_at dkL_law_4 58 rfl) (by decide) ?_
  refine ql_iload (pc' := 964) (dk_at dkL_law_4 61 rfl) rfl rfl ?_
  refine ql_if_ne (tgt := 979) (pc' := 967) (dk_at dkL_law_4 62 rfl) (by decide) rfl (by omega) (fun z => ?_) (fun z => ?_)
  · refine ql_goto (tgt := 1495) (dk_at dkL_law_4 72 rfl) (by decide) ?_
    exact nx.go (by omega) (by omega) hfin
  · refine ql_aload_n (pc' := 968) (dk_at dkL_law_4 63 rfl) rfl rfl ?_
    refine ql_iconst (pc' := 969) (dk_at dkL_law_4 64 rfl) rfl ?_
    refine rl_lald (pc' := 970) (dk_at dkL_law_4 65 rfl) (hA1.fr (hF2 168 (by omega))) 0 rfl (by decide) (by decide) rfl ?_
    refine ql_iload (pc' := 972) (dk_at dkL_law_4 66 rfl) rfl rfl ?_
    refine ql_i2l (pc' := 973) (dk_at dkL_law_4 67 rfl) rfl ?_
    refine ql_lcmp1 (pc' := 974) (by rw [hf1 (by omega), hv (by omega)]) (dk_at dkL_law_4 68 rfl) rfl ?_
    refine ql_if_eq (tgt := 979) (pc' := 977) (dk_at dkL_law_4 69 rfl) (by decide) rfl (by decide) (fun _ => ?_) (fun z => absurd rfl z)
    refine ql_goto (tgt := 1495) (dk_at dkL_law_4 72 rfl) (by decide) ?_
    exact nx.go (by omega) (by omega) hfin
theorem ca_jobAt {Z : SX} {F : FT} {k u i : Nat} {h : PH} (hZ : Z.2.1 ≤ 3072) (hi : i + 6 ≤ Z.2.1) (hk : k + 1 ≤ 601024) (hu : u + 6 ≤ 7293034) (hL : LwI h) (nx : Nx Z F k u i) : QQ Z F k u 982 (Lh i) [] h := by
  obtain ⟨σ, th, f, hI, hO, hM, hA⟩ := hL
  refine ql_aload_n (pc' := 983) (dk_at dkL_law_4 73 rfl) rfl rfl ?_
  refine ql_arg (j := 1) (pc' := 989) rfl (by omega) (by omega) (dk_at dkL_law_4 74 rfl) (dk_at dkL_law_4 75 rfl) (dk_at dkL_law_4 76 rfl) (dk_at dkL_law_4 77 rfl) (dk_at dkL_law_4 78 rfl) rfl ?_
  refine ql_arg (j := 2) (pc' := 995) rfl (by omega) (by omega) (dk_at dkL_law_4 79 rfl) (dk_at dkL_law_4 80 rfl) (dk_at dkL_law_4 81 rfl) (dk_at dkL_law_4 82 rfl) (dk_at dkL_law_4 83 rfl) rfl ?_
  refine ql_aload_n (pc' := 996) (dk_at dkL_law_4 84 rfl) rfl rfl ?_
  refine ql_callSW (pc' := 999) (As := [vR 0, vI (scI Z (i + 1)), vI (scI Z (i + 2)), vR 168]) (S := []) cs_RL_144 (dk_at dkL_law_4 85 rfl) (w_jobAt (d := 21) (Nat.le_refl _) hI hO hA (scI_ir _ _) (scI_ir _ _)) (by decide) hk hu rfl (Nat.le_of_ble_eq_true rfl) rfl (Nat.le_of_ble_eq_true rfl) rfl ?_
  rintro r n' h1 ⟨rfl, x, v, σ', rfl, hx, hMC, hI1, hO1, ⟨f1, hA1, hf1⟩, hc⟩
  have hM1 : MOI 169 h1 149 th σ := hM.fr (fun k k1 k2 => hc k k1 (by omega))
  obtain ⟨fs1, hob1⟩ := hM1.obj
  refine ql_istore (pc' := 1001) (L' := [none, some (vR 0), some (vR 149), some (vR 168), some (vI (i : Int)), some (vI x), none, none]) (by decide) (dk_at dkL_law_4 86 rfl) (by decide) rfl rfl ?_
  refine ql_aload_n (pc' := 1002) (dk_at dkL_law_4 87 rfl) rfl rfl ?_
  refine ql_arg (j := 1) (pc' := 1008) rfl (by omega) (by omega) (dk_at dkL_law_4 88 rfl) (dk_at dkL_law_4 89 rfl) (dk_at dkL_law_4 90 rfl) (dk_at dkL_law_4 91 rfl) (dk_at dkL_law_4 92 rfl) rfl ?_
  refine ql_arg (j := 2) (pc' := 1014) rfl (by omega) (by omega) (dk_at dkL_law_4 93 rfl) (dk_at dkL_law_4 94 rfl) (dk_at dkL_law_4 95 rfl) (dk_at dkL_law_4 96 rfl) (dk_at dkL_law_4 97 rfl) rfl ?_
  refine rl_cVI (pc' := 1017) (As := [vI (scI Z (i + 1)), vI (scI Z (i + 2))]) (S := []) cv_RL_146 (dk_at dkL_law_4 98 rfl) hob1 rfl (hMC 30 h1 th (Nat.le_refl _) hM1) (by decide) (by omega) (by omega) rfl (Nat.le_of_ble_eq_true rfl) rfl (Nat.le_of_ble_eq_true rfl) rfl ?_
  rintro v' h2 ⟨hv, hM2, hF2⟩
  obtain ⟨fs2, hob2⟩ := hM2.obj
  have hfin : LwI h2 := ⟨σ', x, f1, hI1.frm hF2 (by omega), hO1, hM2, hA1.fr (hF2 168 (by omega))⟩
  refine ql_istore (pc' := 1019) (L' := [none, some (vR 0), some (vR 149), some (vR 168), some (vI (i : Int)), some (vI x), some (vI v'), none]) (by decide) (dk_at dkL_law_4 99 rfl) (by decide) rfl rfl ?_
  refine ql_aload_n (pc' := 1020) (dk_at dkL_law_4 100 rfl) rfl rfl ?_
  refine rl_cVI (pc' := 1023) (As := []) (S := []) cv_RL_85 (dk_at dkL_law_4 101 rfl) hob2 rfl (k_thr (d := 30) hM2) (by decide) (by omega) (by omega) rfl (Nat.le_of_ble_eq_true rfl) rfl (Nat.le_of_ble_eq_true rfl) rfl ?_
  rintro y h3 ⟨e3, ey⟩
  rw [e3]
  refine ql_iload (pc' := 1025) (dk_at dkL_law_4 102 rfl) rfl rfl ?_
  refine ql_icmp1 (tgt := 1030) ey (dk_at dkL_law_4 103 rfl) (by decide) ?_
  refine ql_iload (pc' := 1032) (dk_at dkL_law_4 106 rfl) rfl rfl ?_
  refine ql_if_ne (tgt := 1047) (pc' := 1035) (dk_at dkL_law_4 107 rfl) (by decide) rfl (by omega) (fun z => ?_) (fun z => ?_)
  · refine ql_goto (tgt := 1495) (dk_at dkL_law_4 117 rfl) (by decide) ?_
    exact nx.go (by omega) (by omega) hfin
  · refine ql_aload_n (pc' := 1036) (dk_at dkL_law_4 108 rfl) rfl rfl ?_
    refine ql_iconst (pc' := 1037) (dk_at dkL_law_4 109 rfl) rfl ?_
    refine rl_lald (pc' := 1038) (dk_at dkL_law_4 110 rfl) (hA1.fr (hF2 168 (by omega))) 0 rfl (by decide) (by decide) rfl ?_
    refine ql_iload (pc' := 1040) (dk_at dkL_law_4 111 rfl) rfl rfl ?_
    refine ql_i2l (pc' := 1041) (dk_at dkL_law_4 112 rfl) rfl ?_
    refine ql_lcmp1 (pc' := 1042) (by rw [hf1 (by omega), hv (by omega)]) (dk_at dkL_law_4 113 rfl) rfl ?_
    refine ql_if_eq (tgt := 1047) (pc' := 1045) (dk_at dkL_law_4 114 rfl) (by decide) rfl (by decide) (fun _ => ?_) (fun z => absurd rfl z)
    refine ql_goto (tgt := 1495) (dk_at dkL_law_4 117 rfl) (by decide) ?_
    exact nx.go (by omega) (by omega) hfin
theorem ca_planned {Z : SX} {F : FT} {k u i : Nat} {h : PH} (hZ : Z.2.1 ≤ 3072) (hi : i + 6 ≤ Z.2.1) (hk : k + 1 ≤ 601024) (hu : u + 6 ≤ 7293034) (hL : LwI h) (nx : Nx Z F k u i) : QQ Z F k u 1050 (Lh i) [] h := by
  obtain ⟨σ, th, f, hI, hO, hM, hA⟩ := hL
  refine ql_aload_n (pc' := 1051) (dk_at dkL_law_4 118 rfl) rfl rfl ?_
  refine ql_arg (j := 1) (pc' := 1057) rfl (by omega) (by omega) (dk_at dkL_law_4 119 rfl) (dk_at dkL_law_5 0 rfl) (dk_at dkL_law_5 1 rfl) (dk_at dkL_law_5 2 rfl) (dk_at dkL_law_5 3 rfl) rfl ?_
  refine ql_arg (j := 2) (pc' := 1063) rfl (by omega) (by omega) (dk_at dkL_law_5 4 rfl) (dk_at dkL_law_5 5 rfl) (dk_at dkL_law_5 6 rfl) (dk_at dkL_law_5 7 rfl) (dk_at dkL_law_5 8 rfl) rfl ?_
  refine ql_aload_n (pc' := 1064) (dk_at dkL_law_5 9 rfl) rfl rfl ?_
  refine ql_callSW (pc' := 1067) (As := [vR 0, vI (scI Z (i + 1)), vI (scI Z (i + 2)), vR 168]) (S := []) cs_RL_147 (dk_at dkL_law_5 10 rfl) (w_planned (d := 21) (Nat.le_refl _) hI hO hA (scI_ir _ _) (scI_ir _ _)) (by decide) hk hu rfl (Nat.le_of_ble_eq_true rfl) rfl (Nat.le_of_ble_eq_true rfl) rfl ?_
  rintro r n' h1 ⟨rfl, x, v, σ', rfl, hx, hMC, hI1, hO1, ⟨f1, hA1, hf1⟩, hc⟩
  have hM1 : MOI 169 h1 149 th σ := hM.fr (fun k k1 k2 => hc k k1 (by omega))
  obtain ⟨fs1, hob1⟩ := hM1.obj
  refine ql_istore (pc' := 1069) (L' := [none, some (vR 0), some (vR 149), some (vR 168), some (vI (i : Int)), some (vI x), none, none]) (by decide) (dk_at dkL_law_5 11 rfl) (by decide) rfl rfl ?_
  refine ql_aload_n (pc' := 1070) (dk_at dkL_law_5 12 rfl) rfl rfl ?_
  refine ql_arg (j := 1) (pc' := 1076) rfl (by omega) (by omega) (dk_at dkL_law_5 13 rfl) (dk_at dkL_law_5 14 rfl) (dk_at dkL_law_5 15 rfl) (dk_at dkL_law_5 16 rfl) (dk_at dkL_law_5 17 rfl) rfl ?_
  refine ql_arg (j := 2) (pc' := 1082) rfl (by omega) (by omega) (dk_at dkL_law_5 18 rfl) (dk_at dkL_law_5 19 rfl) (dk_at dkL_law_5 20 rfl) (dk_at dkL_law_5 21 rfl) (dk_at dkL_law_5 22 rfl) rfl ?_
  refine rl_cVI (pc' := 1085) (As := [vI (scI Z (i + 1)), vI (scI Z (i + 2))]) (S := []) cv_RL_149 (dk_at dkL_law_5 23 rfl) hob1 rfl (hMC 30 h1 th (Nat.le_refl _) hM1) (by decide) (by omega) (by omega) rfl (Nat.le_of_ble_eq_true rfl) rfl (Nat.le_of_ble_eq_true rfl) rfl ?_
  rintro v' h2 ⟨hv, hM2, hF2⟩
  obtain ⟨fs2, hob2⟩ := hM2.obj
  have hfin : LwI h2 := ⟨σ', x, f1, hI1.frm hF2 (by omega), hO1, hM2, hA1.fr (hF2 168 (by omega))⟩
  refine ql_istore (pc' := 1087) (L' := [none, some (vR 0), some (vR 149), some (vR 168), some (vI (i : Int)), some (vI x), some (vI v'), none]) (by decide) (dk_at dkL_law_5 24 rfl) (by decide) rfl rfl ?_
  refine ql_aload_n (pc' := 1088) (dk_at dkL_law_5 25 rfl) rfl rfl ?_
  refine rl_cVI (pc' := 1091) (As := []) (S := []) cv_RL_85 (dk_at dkL_law_5 26 rfl) hob2 rfl (k_thr (d := 30) hM2) (by decide) (by omega) (by omega) rfl (Nat.le_of_ble_eq_true rfl) rfl (Nat.le_of_ble_eq_true rfl) rfl ?_
  rintro y h3 ⟨e3, ey⟩
  rw [e3]
  refine ql_iload (pc' := 1093) (dk_at dkL_law_5 27 rfl) rfl rfl ?_
  refine ql_icmp1 (tgt := 1098) ey (dk_at dkL_law_5 28 rfl) (by decide) ?_
  refine ql_iload (pc' := 1100) (dk_at dkL_law_5 31 rfl) rfl rfl ?_
  refine ql_if_ne (tgt := 1115) (pc' := 1103) (dk_at dkL_law_5 32 rfl) (by decide) rfl (by omega) (fun z => ?_) (fun z => ?_)
  · refine ql_goto (tgt := 1495) (dk_at dkL_law_5 42 rfl) (by decide) ?_
    exact nx.go (by omega) (by omega) hfin
  · refine ql_aload_n (pc' := 1104) (dk_at dkL_law_5 33 rfl) rfl rfl ?_
    refine ql_iconst (pc' := 1105) (dk_at dkL_law_5 34 rfl) rfl ?_
    refine rl_lald (pc' := 1106) (dk_at dkL_law_5 35 rfl) (hA1.fr (hF2 168 (by omega))) 0 rfl (by decide) (by decide) rfl ?_
    refine ql_iload (pc' := 1108) (dk_at dkL_law_5 36 rfl) rfl rfl ?_
    refine ql_i2l (pc' := 1109) (dk_at dkL_law_5 37 rfl) rfl ?_
    refine ql_lcmp1 (pc' := 1110) (by rw [hf1 (by omega), hv (by omega)]) (dk_at dkL_law_5 38 rfl) rfl ?_
    refine ql_if_eq (tgt := 1115) (pc' := 1113) (dk_at dkL_law_5 39 rfl) (by decide) rfl (by decide) (fun _ => ?_) (fun z => absurd rfl z)
    refine ql_goto (tgt := 1495) (dk_at dkL_law_5 42 rfl) (by decide) ?_
    exact nx.go (by omega) (by omega) hfin
theorem ca_cost {Z : SX} {F : FT} {k u i : Nat} {h : PH} (hZ : Z.2.1 ≤ 3072) (hi : i + 6 ≤ Z.2.1) (hk : k + 1 ≤ 601024) (hu : u + 6 ≤ 7293034) (hL : LwI h) (nx : Nx Z F k u i) : QQ Z F k u 1118 (Lh i) [] h := by
  obtain ⟨⟨⟨S, P, kn, bs⟩, sv, x, tx, tl⟩, th, f, hI, hO, hM, hA⟩ := hL
  refine ql_aload_n (pc' := 1119) (dk_at dkL_law_5 43 rfl) rfl rfl ?_
  refine rl_cVJ (pc' := 1122) (As := []) (S := []) cv_RL_150 (dk_at dkL_law_5 44 rfl) hI.1.obj rfl (k_BM_cost (d := 20) (Nat.le_refl _) hI hO) (by decide) (by omega) (by omega) rfl (Nat.le_of_ble_eq_true rfl) rfl (Nat.le_of_ble_eq_true rfl) rfl ?_
  rintro v h1 ⟨hv, hB, hF⟩
  have hO1 : BOk ((S, P, kn, bs), sv, x, tx, tl) := hO
  have hM1 : MOI 169 h1 149 th ((S, P, kn, bs), sv, x, tx, tl) := hM.fr (fun k k1 k2 => hF k (by omega))
  obtain ⟨fs1, hob1⟩ := hM1.obj
  refine ql_aload_n (pc' := 1123) (dk_at dkL_law_5 45 rfl) rfl rfl ?_
  refine rl_cVJ (pc' := 1126) (As := []) (S := [vJ v]) cv_RL_153 (dk_at dkL_law_5 46 rfl) hob1 rfl (k_M_cost (d := 30) (Nat.le_refl _) hM1 hO1) (by decide) (by omega) (by omega) rfl (Nat.le_of_ble_eq_true rfl) rfl (Nat.le_of_ble_eq_true rfl) rfl ?_
  rintro v' h2 ⟨e, m, g⟩
  have hfin : LwI h2 := ⟨_, 0, f, hB.frm g (by omega), hO1, m, (hA.fr (hF 168 (by omega))).fr (g 168 (by omega))⟩
  refine ql_lcmp1 (pc' := 1127) (hv.trans e.symm) (dk_at dkL_law_5 47 rfl) rfl ?_
  refine ql_if_eq (tgt := 1495) (pc' := 1130) (dk_at dkL_law_5 48 rfl) (by decide) rfl (by decide) (fun _ => ?_) (fun z => absurd rfl z)
  exact nx.go (by omega) (by omega) hfin
theorem ca_total {Z : SX} {F : FT} {k u i : Nat} {h : PH} (hZ : Z.2.1 ≤ 3072) (hi : i + 6 ≤ Z.2.1) (hk : k + 1 ≤ 601024) (hu : u + 6 ≤ 7293034) (hL : LwI h) (nx : Nx Z F k u i) : QQ Z F k u 1132 (Lh i) [] h := by
  obtain ⟨σ, th, f, hI, hO, hM, hA⟩ := hL
  refine ql_aload_n (pc' := 1133) (dk_at dkL_law_5 51 rfl) rfl rfl ?_
  refine ql_arg (j := 1) (pc' := 1139) rfl (by omega) (by omega) (dk_at dkL_law_5 52 rfl) (dk_at dkL_law_5 53 rfl) (dk_at dkL_law_5 54 rfl) (dk_at dkL_law_5 55 rfl) (dk_at dkL_law_5 56 rfl) rfl ?_
  refine ql_aload_n (pc' := 1140) (dk_at dkL_law_5 57 rfl) rfl rfl ?_
  refine ql_callSW (pc' := 1143) (As := [vR 0, vI (scI Z (i + 1)), vR 168]) (S := []) cs_RL_154 (dk_at dkL_law_5 58 rfl) (w_total (d := 21) (Nat.le_refl _) hI hO hA (scI_ir _ _)) (by decide) hk hu rfl (Nat.le_of_ble_eq_true rfl) rfl (Nat.le_of_ble_eq_true rfl) rfl ?_
  rintro r n' h1 ⟨rfl, x, v, σ', rfl, hx, hMC, hI1, hO1, ⟨f1, hA1, hf1⟩, hc⟩
  have hM1 : MOI 169 h1 149 th σ := hM.fr (fun k k1 k2 => hc k k1 (by omega))
  obtain ⟨fs1, hob1⟩ := hM1.obj
  refine ql_istore (pc' := 1145) (L' := [none, some (vR 0), some (vR 149), some (vR 168), some (vI (i : Int)), some (vI x), none, none]) (by decide) (dk_at dkL_law_5 59 rfl) (by decide) rfl rfl ?_
  refine ql_aload_n (pc' := 1146) (dk_at dkL_law_5 60 rfl) rfl rfl ?_
  refine ql_arg (j := 1) (pc' := 1152) rfl (by omega) (by omega) (dk_at dkL_law_5 61 rfl) (dk_at dkL_law_5 62 rfl) (dk_at dkL_law_5 63 rfl) (dk_at dkL_law_5 64 rfl) (dk_at dkL_law_5 65 rfl) rfl ?_
  refine rl_cVI (pc' := 1155) (As := [vI (scI Z (i + 1))]) (S := []) cv_RL_156 (dk_at dkL_law_5 66 rfl) hob1 rfl (hMC 30 h1 th (Nat.le_refl _) hM1) (by decide) (by omega) (by omega) rfl (Nat.le_of_ble_eq_true rfl) rfl (Nat.le_of_ble_eq_true rfl) rfl ?_
  rintro v' h2 ⟨hv, hM2, hF2⟩
  obtain ⟨fs2, hob2⟩ := hM2.obj
  have hfin : LwI h2 := ⟨σ', x, f1, hI1.frm hF2 (by omega), hO1, hM2, hA1.fr (hF2 168 (by omega))⟩
  refine ql_istore (pc' := 1157) (L' := [none, some (vR 0), some (vR 149), some (vR 168), some (vI (i : Int)), some (vI x), some (vI v'), none]) (by decide) (dk_at dkL_law_5 67 rfl) (by decide) rfl rfl ?_
  refine ql_aload_n (pc' := 1158) (dk_at dkL_law_5 68 rfl) rfl rfl ?_
  refine rl_cVI (pc' := 1161) (As := []) (S := []) cv_RL_85 (dk_at dkL_law_5 69 rfl) hob2 rfl (k_thr (d := 30) hM2) (by decide) (by omega) (by omega) rfl (Nat.le_of_ble_eq_true rfl) rfl (Nat.le_of_ble_eq_true rfl) rfl ?_
  rintro y h3 ⟨e3, ey⟩
  rw [e3]
  refine ql_iload (pc' := 1163) (dk_at dkL_law_5 70 rfl) rfl rfl ?_
  refine ql_icmp1 (tgt := 1168) ey (dk_at dkL_law_5 71 rfl) (by decide) ?_
  refine ql_iload (pc' := 1170) (dk_at dkL_law_5 74 rfl) rfl rfl ?_
  refine ql_if_ne (tgt := 1185) (pc' := 1173) (dk_at dkL_law_5 75 rfl) (by decide) rfl (by omega) (fun z => ?_) (fun z => ?_)
  · refine ql_goto (tgt := 1495) (dk_at dkL_law_5 85 rfl) (by decide) ?_
    exact nx.go (by omega) (by omega) hfin
  · refine ql_aload_n (pc' := 1174) (dk_at dkL_law_5 76 rfl) rfl rfl ?_
    refine ql_iconst (pc' := 1175) (dk_at dkL_law_5 77 rfl) rfl ?_
    refine rl_lald (pc' := 1176) (dk_at dkL_law_5 78 rfl) (hA1.fr (hF2 168 (by omega))) 0 rfl (by decide) (by decide) rfl ?_
    refine ql_iload (pc' := 1178) (dk_at dkL_law_5 79 rfl) rfl rfl ?_
    refine ql_i2l (pc' := 1179) (dk_at dkL_law_5 80 rfl) rfl ?_
    refine ql_lcmp1 (pc' := 1180) (by rw [hf1 (by omega), hv (by omega)]) (dk_at dkL_law_5 81 rfl) rfl ?_
    refine ql_if_eq (tgt := 1185) (pc' := 1183) (dk_at dkL_law_5 82 rfl) (by decide) rfl (by decide) (fun _ => ?_) (fun z => absurd rfl z)
    refine ql_goto (tgt := 1495) (dk_at dkL_law_5 85 rfl) (by decide) ?_
    exact nx.go (by omega) (by omega) hfin
theorem ca_bestCost {Z : SX} {F : FT} {k u i : Nat} {h : PH} (hZ : Z.2.1 ≤ 3072) (hi : i + 6 ≤ Z.2.1) (hk : k + 1 ≤ 601024) (hu : u + 6 ≤ 7293034) (hL : LwI h) (nx : Nx Z F k u i) : QQ Z F k u 1188 (Lh i) [] h := by
  obtain ⟨⟨⟨S, P, kn, bs⟩, sv, x, tx, tl⟩, th, f, hI, hO, hM, hA⟩ := hL
  refine ql_aload_n (pc' := 1189) (dk_at dkL_law_5 86 rfl) rfl rfl ?_
  refine rl_cVJ (pc' := 1192) (As := []) (S := []) cv_RL_157 (dk_at dkL_law_5 87 rfl) hI.1.obj rfl (k_BM_bestCost (d := 20) (Nat.le_refl _) hI hO) (by decide) (by omega) (by omega) rfl (Nat.le_of_ble_eq_true rfl) rfl (Nat.le_of_ble_eq_true rfl) rfl ?_
  rintro v h1 ⟨hv, kn', bs', hbst, hB, hF⟩
  have hO1 : BOk ((S, P, kn', bs'), sv, x, tx, tl) := hO.cur ⟨hO.1.1, hO.1.2.1, hbst⟩
  have hM1 : MOI 169 h1 149 th ((S, P, kn', bs'), sv, x, tx, tl) := hM.fr (fun k k1 k2 => hF k (by omega))
  obtain ⟨fs1, hob1⟩ := hM1.obj
  refine ql_aload_n (pc' := 1193) (dk_at dkL_law_5 88 rfl) rfl rfl ?_
  refine rl_cVJ (pc' := 1196) (As := []) (S := [vJ v]) cv_RL_160 (dk_at dkL_law_5 89 rfl) hob1 rfl (k_M_bestCost (d := 30) (kn := kn') (bs := bs') (Nat.le_refl _) hM1 hO1) (by decide) (by omega) (by omega) rfl (Nat.le_of_ble_eq_true rfl) rfl (Nat.le_of_ble_eq_true rfl) rfl ?_
  rintro v' h2 ⟨e, m, g⟩
  have hfin : LwI h2 := ⟨_, 0, f, hB.frm g (by omega), hO1, m, (hA.fr (hF 168 (by omega))).fr (g 168 (by omega))⟩
  refine ql_lcmp1 (pc' := 1197) (hv.trans e.symm) (dk_at dkL_law_5 90 rfl) rfl ?_
  refine ql_if_eq (tgt := 1495) (pc' := 1200) (dk_at dkL_law_5 91 rfl) (by decide) rfl (by decide) (fun _ => ?_) (fun z => absurd rfl z)
  exact nx.go (by omega) (by omega) hfin
theorem ca_ruleCost {Z : SX} {F : FT} {k u i : Nat} {h : PH} (hZ : Z.2.1 ≤ 3072) (hi : i + 6 ≤ Z.2.1) (hk : k + 1 ≤ 601024) (hu : u + 6 ≤ 7293034) (hL : LwI h) (nx : Nx Z F k u i) : QQ Z F k u 1202 (Lh i) [] h := by
  obtain ⟨σ, th, f, hI, hO, hM, hA⟩ := hL
  refine ql_aload_n (pc' := 1203) (dk_at dkL_law_5 94 rfl) rfl rfl ?_
  refine ql_arg (j := 1) (pc' := 1209) rfl (by omega) (by omega) (dk_at dkL_law_5 95 rfl) (dk_at dkL_law_5 96 rfl) (dk_at dkL_law_5 97 rfl) (dk_at dkL_law_5 98 rfl) (dk_at dkL_law_5 99 rfl) rfl ?_
  refine ql_aload_n (pc' := 1210) (dk_at dkL_law_5 100 rfl) rfl rfl ?_
  refine ql_callSW (pc' := 1213) (As := [vR 0, vI (scI Z (i + 1)), vR 168]) (S := []) cs_RL_161 (dk_at dkL_law_5 101 rfl) (w_ruleCost (d := 21) (Nat.le_refl _) hI hO hA (scI_ir _ _)) (by decide) hk hu rfl (Nat.le_of_ble_eq_true rfl) rfl (Nat.le_of_ble_eq_true rfl) rfl ?_
  rintro r n' h1 ⟨rfl, x, v, σ', rfl, hx, hMC, hI1, hO1, ⟨f1, hA1, hf1⟩, hc⟩
  have hM1 : MOI 169 h1 149 th σ := hM.fr (fun k k1 k2 => hc k k1 (by omega))
  obtain ⟨fs1, hob1⟩ := hM1.obj
  refine ql_istore (pc' := 1215) (L' := [none, some (vR 0), some (vR 149), some (vR 168), some (vI (i : Int)), some (vI x), none, none]) (by decide) (dk_at dkL_law_5 102 rfl) (by decide) rfl rfl ?_
  refine ql_aload_n (pc' := 1216) (dk_at dkL_law_5 103 rfl) rfl rfl ?_
  refine ql_arg (j := 1) (pc' := 1222) rfl (by omega) (by omega) (dk_at dkL_law_5 104 rfl) (dk_at dkL_law_5 105 rfl) (dk_at dkL_law_5 106 rfl) (dk_at dkL_law_5 107 rfl) (dk_at dkL_law_5 108 rfl) rfl ?_
  refine rl_cVJ (pc' := 1225) (As := [vI (scI Z (i + 1))]) (S := []) cv_RL_163 (dk_at dkL_law_5 109 rfl) hob1 rfl (hMC 30 h1 th (Nat.le_refl _) hM1) (by decide) (by omega) (by omega) rfl (Nat.le_of_ble_eq_true rfl) rfl (Nat.le_of_ble_eq_true rfl) rfl ?_
  rintro v' h2 ⟨hv, hM2, hF2⟩
  obtain ⟨fs2, hob2⟩ := hM2.obj
  have hfin : LwI h2 := ⟨σ', x, f1, hI1.frm hF2 (by omega), hO1, hM2, hA1.fr (hF2 168 (by omega))⟩
  refine ql_lstore (pc' := 1227) (L' := [none, some (vR 0), some (vR 149), some (vR 168), some (vI (i : Int)), some (vI x), some (vJ v'), none]) (by decide) (dk_at dkL_law_5 110 rfl) (by decide) rfl rfl ?_
  refine ql_aload_n (pc' := 1228) (dk_at dkL_law_5 111 rfl) rfl rfl ?_
  refine rl_cVI (pc' := 1231) (As := []) (S := []) cv_RL_85 (dk_at dkL_law_5 112 rfl) hob2 rfl (k_thr (d := 30) hM2) (by decide) (by omega) (by omega) rfl (Nat.le_of_ble_eq_true rfl) rfl (Nat.le_of_ble_eq_true rfl) rfl ?_
  rintro y h3 ⟨e3, ey⟩
  rw [e3]
  refine ql_iload (pc' := 1233) (dk_at dkL_law_5 113 rfl) rfl rfl ?_
  refine ql_icmp1 (tgt := 1238) ey (dk_at dkL_law_5 114 rfl) (by decide) ?_
  refine ql_iload (pc' := 1240) (dk_at dkL_law_5 117 rfl) rfl rfl ?_
  refine ql_if_ne (tgt := 1254) (pc' := 1243) (dk_at dkL_law_5 118 rfl) (by decide) rfl (by omega) (fun z => ?_) (fun z => ?_)
  · refine ql_goto (tgt := 1495) (dk_at dkL_law_6 7 rfl) (by decide) ?_
    exact nx.go (by omega) (by omega) hfin
  · refine ql_aload_n (pc' := 1244) (dk_at dkL_law_5 119 rfl) rfl rfl ?_
    refine ql_iconst (pc' := 1245) (dk_at dkL_law_6 0 rfl) rfl ?_
    refine rl_lald (pc' := 1246) (dk_at dkL_law_6 1 rfl) (hA1.fr (hF2 168 (by omega))) 0 rfl (by decide) (by decide) rfl ?_
    refine ql_lload (pc' := 1248) (dk_at dkL_law_6 2 rfl) rfl rfl ?_
    refine ql_lcmp1 (pc' := 1249) (by rw [hf1 (by omega), hv (by omega)]) (dk_at dkL_law_6 3 rfl) rfl ?_
    refine ql_if_eq (tgt := 1254) (pc' := 1252) (dk_at dkL_law_6 4 rfl) (by decide) rfl (by decide) (fun _ => ?_) (fun z => absurd rfl z)
    refine ql_goto (tgt := 1495) (dk_at dkL_law_6 7 rfl) (by decide) ?_
    exact nx.go (by omega) (by omega) hfin
theorem ca_bestWithout {Z : SX} {F : FT} {k u i : Nat} {h : PH} (hZ : Z.2.1 ≤ 3072) (hi : i + 6 ≤ Z.2.1) (hk : k + 1 ≤ 601024) (hu : u + 6 ≤ 7293034) (hL : LwI h) (nx : Nx Z F k u i) : QQ Z F k u 1257 (Lh i) [] h := by
  obtain ⟨σ, th, f, hI, hO, hM, hA⟩ := hL
  refine ql_aload_n (pc' := 1258) (dk_at dkL_law_6 8 rfl) rfl rfl ?_
  refine ql_arg (j := 1) (pc' := 1264) rfl (by omega) (by omega) (dk_at dkL_law_6 9 rfl) (dk_at dkL_law_6 10 rfl) (dk_at dkL_law_6 11 rfl) (dk_at dkL_law_6 12 rfl) (dk_at dkL_law_6 13 rfl) rfl ?_
  refine ql_aload_n (pc' := 1265) (dk_at dkL_law_6 14 rfl) rfl rfl ?_
  refine ql_callSW (pc' := 1268) (As := [vR 0, vI (scI Z (i + 1)), vR 168]) (S := []) cs_RL_164 (dk_at dkL_law_6 15 rfl) (w_bestWithout (d := 21) (Nat.le_refl _) hI hO hA (scI_ir _ _)) (by decide) hk hu rfl (Nat.le_of_ble_eq_true rfl) rfl (Nat.le_of_ble_eq_true rfl) rfl ?_
  rintro r n' h1 ⟨rfl, x, v, σ', rfl, hx, hMC, hI1, hO1, ⟨f1, hA1, hf1⟩, hc⟩
  have hM1 : MOI 169 h1 149 th σ := hM.fr (fun k k1 k2 => hc k k1 (by omega))
  obtain ⟨fs1, hob1⟩ := hM1.obj
  refine ql_istore (pc' := 1270) (L' := [none, some (vR 0), some (vR 149), some (vR 168), some (vI (i : Int)), some (vI x), none, none]) (by decide) (dk_at dkL_law_6 16 rfl) (by decide) rfl rfl ?_
  refine ql_aload_n (pc' := 1271) (dk_at dkL_law_6 17 rfl) rfl rfl ?_
  refine ql_arg (j := 1) (pc' := 1277) rfl (by omega) (by omega) (dk_at dkL_law_6 18 rfl) (dk_at dkL_law_6 19 rfl) (dk_at dkL_law_6 20 rfl) (dk_at dkL_law_6 21 rfl) (dk_at dkL_law_6 22 rfl) rfl ?_
  refine rl_cVJ (pc' := 1280) (As := [vI (scI Z (i + 1))]) (S := []) cv_RL_166 (dk_at dkL_law_6 23 rfl) hob1 rfl (hMC 30 h1 th (Nat.le_refl _) hM1) (by decide) (by omega) (by omega) rfl (Nat.le_of_ble_eq_true rfl) rfl (Nat.le_of_ble_eq_true rfl) rfl ?_
  rintro v' h2 ⟨hv, hM2, hF2⟩
  obtain ⟨fs2, hob2⟩ := hM2.obj
  have hfin : LwI h2 := ⟨σ', x, f1, hI1.frm hF2 (by omega), hO1, hM2, hA1.fr (hF2 168 (by omega))⟩
  refine ql_lstore (pc' := 1282) (L' := [none, some (vR 0), some (vR 149), some (vR 168), some (vI (i : Int)), some (vI x), some (vJ v'), none]) (by decide) (dk_at dkL_law_6 24 rfl) (by decide) rfl rfl ?_
  refine ql_aload_n (pc' := 1283) (dk_at dkL_law_6 25 rfl) rfl rfl ?_
  refine rl_cVI (pc' := 1286) (As := []) (S := []) cv_RL_85 (dk_at dkL_law_6 26 rfl) hob2 rfl (k_thr (d := 30) hM2) (by decide) (by omega) (by omega) rfl (Nat.le_of_ble_eq_true rfl) rfl (Nat.le_of_ble_eq_true rfl) rfl ?_
  rintro y h3 ⟨e3, ey⟩
  rw [e3]
  refine ql_iload (pc' := 1288) (dk_at dkL_law_6 27 rfl) rfl rfl ?_
  refine ql_icmp1 (tgt := 1293) ey (dk_at dkL_law_6 28 rfl) (by decide) ?_
  refine ql_iload (pc' := 1295) (dk_at dkL_law_6 31 rfl) rfl rfl ?_
  refine ql_if_ne (tgt := 1309) (pc' := 1298) (dk_at dkL_law_6 32 rfl) (by decide) rfl (by omega) (fun z => ?_) (fun z => ?_)
  · refine ql_goto (tgt := 1495) (dk_at dkL_law_6 41 rfl) (by decide) ?_
    exact nx.go (by omega) (by omega) hfin
  · refine ql_aload_n (pc' := 1299) (dk_at dkL_law_6 33 rfl) rfl rfl ?_
    refine ql_iconst (pc' := 1300) (dk_at dkL_law_6 34 rfl) rfl ?_
    refine rl_lald (pc' := 1301) (dk_at dkL_law_6 35 rfl) (hA1.fr (hF2 168 (by omega))) 0 rfl (by decide) (by decide) rfl ?_
    refine ql_lload (pc' := 1303) (dk_at dkL_law_6 36 rfl) rfl rfl ?_
    refine ql_lcmp1 (pc' := 1304) (by rw [hf1 (by omega), hv (by omega)]) (dk_at dkL_law_6 37 rfl) rfl ?_
    refine ql_if_eq (tgt := 1309) (pc' := 1307) (dk_at dkL_law_6 38 rfl) (by decide) rfl (by decide) (fun _ => ?_) (fun z => absurd rfl z)
    refine ql_goto (tgt := 1495) (dk_at dkL_law_6 41 rfl) (by decide) ?_
    exact nx.go (by omega) (by omega) hfin
theorem ca_bestWithFirst {Z : SX} {F : FT} {k u i : Nat} {h : PH} (hZ : Z.2.1 ≤ 3072) (hi : i + 6 ≤ Z.2.1) (hk : k + 1 ≤ 601024) (hu : u + 6 ≤ 7293034) (hL : LwI h) (nx : Nx Z F k u i) : QQ Z F k u 1312 (Lh i) [] h := by
  obtain ⟨σ, th, f, hI, hO, hM, hA⟩ := hL
  refine ql_aload_n (pc' := 1313) (dk_at dkL_law_6 42 rfl) rfl rfl ?_
  refine ql_arg (j := 1) (pc' := 1319) rfl (by omega) (by omega) (dk_at dkL_law_6 43 rfl) (dk_at dkL_law_6 44 rfl) (dk_at dkL_law_6 45 rfl) (dk_at dkL_law_6 46 rfl) (dk_at dkL_law_6 47 rfl) rfl ?_
  refine ql_aload_n (pc' := 1320) (dk_at dkL_law_6 48 rfl) rfl rfl ?_
  refine ql_callSW (pc' := 1323) (As := [vR 0, vI (scI Z (i + 1)), vR 168]) (S := []) cs_RL_167 (dk_at dkL_law_6 49 rfl) (w_bestWithFirst (d := 21) (Nat.le_refl _) hI hO hA (scI_ir _ _)) (by decide) hk hu rfl (Nat.le_of_ble_eq_true rfl) rfl (Nat.le_of_ble_eq_true rfl) rfl ?_
  rintro r n' h1 ⟨rfl, x, v, σ', rfl, hx, hMC, hI1, hO1, ⟨f1, hA1, hf1⟩, hc⟩
  have hM1 : MOI 169 h1 149 th σ := hM.fr (fun k k1 k2 => hc k k1 (by omega))
  obtain ⟨fs1, hob1⟩ := hM1.obj
  refine ql_istore (pc' := 1325) (L' := [none, some (vR 0), some (vR 149), some (vR 168), some (vI (i : Int)), some (vI x), none, none]) (by decide) (dk_at dkL_law_6 50 rfl) (by decide) rfl rfl ?_
  refine ql_aload_n (pc' := 1326) (dk_at dkL_law_6 51 rfl) rfl rfl ?_
  refine ql_arg (j := 1) (pc' := 1332) rfl (by omega) (by omega) (dk_at dkL_law_6 52 rfl) (dk_at dkL_law_6 53 rfl) (dk_at dkL_law_6 54 rfl) (dk_at dkL_law_6 55 rfl) (dk_at dkL_law_6 56 rfl) rfl ?_
  refine rl_cVJ (pc' := 1335) (As := [vI (scI Z (i + 1))]) (S := []) cv_RL_169 (dk_at dkL_law_6 57 rfl) hob1 rfl (hMC 30 h1 th (Nat.le_refl _) hM1) (by decide) (by omega) (by omega) rfl (Nat.le_of_ble_eq_true rfl) rfl (Nat.le_of_ble_eq_true rfl) rfl ?_
  rintro v' h2 ⟨hv, hM2, hF2⟩
  obtain ⟨fs2, hob2⟩ := hM2.obj
  have hfin : LwI h2 := ⟨σ', x, f1, hI1.frm hF2 (by omega), hO1, hM2, hA1.fr (hF2 168 (by omega))⟩
  refine ql_lstore (pc' := 1337) (L' := [none, some (vR 0), some (vR 149), some (vR 168), some (vI (i : Int)), some (vI x), some (vJ v'), none]) (by decide) (dk_at dkL_law_6 58 rfl) (by decide) rfl rfl ?_
  refine ql_aload_n (pc' := 1338) (dk_at dkL_law_6 59 rfl) rfl rfl ?_
  refine rl_cVI (pc' := 1341) (As := []) (S := []) cv_RL_85 (dk_at dkL_law_6 60 rfl) hob2 rfl (k_thr (d := 30) hM2) (by decide) (by omega) (by omega) rfl (Nat.le_of_ble_eq_true rfl) rfl (Nat.le_of_ble_eq_true rfl) rfl ?_
  rintro y h3 ⟨e3, ey⟩
  rw [e3]
  refine ql_iload (pc' := 1343) (dk_at dkL_law_6 61 rfl) rfl rfl ?_
  refine ql_icmp1 (tgt := 1348) ey (dk_at dkL_law_6 62 rfl) (by decide) ?_
  refine ql_iload (pc' := 1350) (dk_at dkL_law_6 65 rfl) rfl rfl ?_
  refine ql_if_ne (tgt := 1364) (pc' := 1353) (dk_at dkL_law_6 66 rfl) (by decide) rfl (by omega) (fun z => ?_) (fun z => ?_)
  · refine ql_goto (tgt := 1495) (dk_at dkL_law_6 75 rfl) (by decide) ?_
    exact nx.go (by omega) (by omega) hfin
  · refine ql_aload_n (pc' := 1354) (dk_at dkL_law_6 67 rfl) rfl rfl ?_
    refine ql_iconst (pc' := 1355) (dk_at dkL_law_6 68 rfl) rfl ?_
    refine rl_lald (pc' := 1356) (dk_at dkL_law_6 69 rfl) (hA1.fr (hF2 168 (by omega))) 0 rfl (by decide) (by decide) rfl ?_
    refine ql_lload (pc' := 1358) (dk_at dkL_law_6 70 rfl) rfl rfl ?_
    refine ql_lcmp1 (pc' := 1359) (by rw [hf1 (by omega), hv (by omega)]) (dk_at dkL_law_6 71 rfl) rfl ?_
    refine ql_if_eq (tgt := 1364) (pc' := 1362) (dk_at dkL_law_6 72 rfl) (by decide) rfl (by decide) (fun _ => ?_) (fun z => absurd rfl z)
    refine ql_goto (tgt := 1495) (dk_at dkL_law_6 75 rfl) (by decide) ?_
    exact nx.go (by omega) (by omega) hfin
theorem ca_latestRelease {Z : SX} {F : FT} {k u i : Nat} {h : PH} (hZ : Z.2.1 ≤ 3072) (hi : i + 6 ≤ Z.2.1) (hk : k + 1 ≤ 601024) (hu : u + 6 ≤ 7293034) (hL : LwI h) (nx : Nx Z F k u i) : QQ Z F k u 1367 (Lh i) [] h := by
  obtain ⟨σ, th, f, hI, hO, hM, hA⟩ := hL
  refine ql_aload_n (pc' := 1368) (dk_at dkL_law_6 76 rfl) rfl rfl ?_
  refine ql_arg (j := 1) (pc' := 1374) rfl (by omega) (by omega) (dk_at dkL_law_6 77 rfl) (dk_at dkL_law_6 78 rfl) (dk_at dkL_law_6 79 rfl) (dk_at dkL_law_6 80 rfl) (dk_at dkL_law_6 81 rfl) rfl ?_
  refine ql_aload_n (pc' := 1375) (dk_at dkL_law_6 82 rfl) rfl rfl ?_
  refine ql_callSW (pc' := 1378) (As := [vR 0, vI (scI Z (i + 1)), vR 168]) (S := []) cs_RL_170 (dk_at dkL_law_6 83 rfl) (w_latestRelease (d := 21) (Nat.le_refl _) hI hO hA (scI_ir _ _)) (by decide) hk hu rfl (Nat.le_of_ble_eq_true rfl) rfl (Nat.le_of_ble_eq_true rfl) rfl ?_
  rintro r n' h1 ⟨rfl, x, v, σ', rfl, hx, hMC, hI1, hO1, ⟨f1, hA1, hf1⟩, hc⟩
  have hM1 : MOI 169 h1 149 th σ := hM.fr (fun k k1 k2 => hc k k1 (by omega))
  obtain ⟨fs1, hob1⟩ := hM1.obj
  refine ql_istore (pc' := 1380) (L' := [none, some (vR 0), some (vR 149), some (vR 168), some (vI (i : Int)), some (vI x), none, none]) (by decide) (dk_at dkL_law_6 84 rfl) (by decide) rfl rfl ?_
  refine ql_aload_n (pc' := 1381) (dk_at dkL_law_6 85 rfl) rfl rfl ?_
  refine ql_arg (j := 1) (pc' := 1387) rfl (by omega) (by omega) (dk_at dkL_law_6 86 rfl) (dk_at dkL_law_6 87 rfl) (dk_at dkL_law_6 88 rfl) (dk_at dkL_law_6 89 rfl) (dk_at dkL_law_6 90 rfl) rfl ?_
  refine rl_cVI (pc' := 1390) (As := [vI (scI Z (i + 1))]) (S := []) cv_RL_172 (dk_at dkL_law_6 91 rfl) hob1 rfl (hMC 30 h1 th (Nat.le_refl _) hM1) (by decide) (by omega) (by omega) rfl (Nat.le_of_ble_eq_true rfl) rfl (Nat.le_of_ble_eq_true rfl) rfl ?_
  rintro v' h2 ⟨hv, hM2, hF2⟩
  obtain ⟨fs2, hob2⟩ := hM2.obj
  have hfin : LwI h2 := ⟨σ', x, f1, hI1.frm hF2 (by omega), hO1, hM2, hA1.fr (hF2 168 (by omega))⟩
  refine ql_istore (pc' := 1392) (L' := [none, some (vR 0), some (vR 149), some (vR 168), some (vI (i : Int)), some (vI x), some (vI v'), none]) (by decide) (dk_at dkL_law_6 92 rfl) (by decide) rfl rfl ?_
  refine ql_aload_n (pc' := 1393) (dk_at dkL_law_6 93 rfl) rfl rfl ?_
  refine rl_cVI (pc' := 1396) (As := []) (S := []) cv_RL_85 (dk_at dkL_law_6 94 rfl) hob2 rfl (k_thr (d := 30) hM2) (by decide) (by omega) (by omega) rfl (Nat.le_of_ble_eq_true rfl) rfl (Nat.le_of_ble_eq_true rfl) rfl ?_
  rintro y h3 ⟨e3, ey⟩
  rw [e3]
  refine ql_iload (pc' := 1398) (dk_at dkL_law_6 95 rfl) rfl rfl ?_
  refine ql_icmp1 (tgt := 1403) ey (dk_at dkL_law_6 96 rfl) (by decide) ?_
  refine ql_iload (pc' := 1405) (dk_at dkL_law_6 99 rfl) rfl rfl ?_
  refine ql_if_ne (tgt := 1420) (pc' := 1408) (dk_at dkL_law_6 100 rfl) (by decide) rfl (by omega) (fun z => ?_) (fun z => ?_)
  · refine ql_goto (tgt := 1495) (dk_at dkL_law_6 110 rfl) (by decide) ?_
    exact nx.go (by omega) (by omega) hfin
  · refine ql_aload_n (pc' := 1409) (dk_at dkL_law_6 101 rfl) rfl rfl ?_
    refine ql_iconst (pc' := 1410) (dk_at dkL_law_6 102 rfl) rfl ?_
    refine rl_lald (pc' := 1411) (dk_at dkL_law_6 103 rfl) (hA1.fr (hF2 168 (by omega))) 0 rfl (by decide) (by decide) rfl ?_
    refine ql_iload (pc' := 1413) (dk_at dkL_law_6 104 rfl) rfl rfl ?_
    refine ql_i2l (pc' := 1414) (dk_at dkL_law_6 105 rfl) rfl ?_
    refine ql_lcmp1 (pc' := 1415) (by rw [hf1 (by omega), hv (by omega)]) (dk_at dkL_law_6 106 rfl) rfl ?_
    refine ql_if_eq (tgt := 1420) (pc' := 1418) (dk_at dkL_law_6 107 rfl) (by decide) rfl (by decide) (fun _ => ?_) (fun z => absurd rfl z)
    refine ql_goto (tgt := 1495) (dk_at dkL_law_6 110 rfl) (by decide) ?_
    exact nx.go (by omega) (by omega) hfin
theorem ca_setupPrice {Z : SX} {F : FT} {k u i : Nat} {h : PH} (hZ : Z.2.1 ≤ 3072) (hi : i + 6 ≤ Z.2.1) (hk : k + 1 ≤ 601024) (hu : u + 6 ≤ 7293034) (hL : LwI h) (nx : Nx Z F k u i) : QQ Z F k u 1423 (Lh i) [] h := by
  obtain ⟨⟨⟨S, P, kn, bs⟩, sv, x, tx, tl⟩, th, f, hI, hO, hM, hA⟩ := hL
  refine ql_aload_n (pc' := 1424) (dk_at dkL_law_6 111 rfl) rfl rfl ?_
  refine rl_cVJ (pc' := 1427) (As := []) (S := []) cv_RL_173 (dk_at dkL_law_6 112 rfl) hI.1.obj rfl (k_BM_setupPrice (d := 20) (Nat.le_refl _) hI hO) (by decide) (by omega) (by omega) rfl (Nat.le_of_ble_eq_true rfl) rfl (Nat.le_of_ble_eq_true rfl) rfl ?_
  rintro v h1 ⟨hv, kn', bs', hbst, hB, hF⟩
  have hO1 : BOk ((S, P, kn', bs'), sv, x, tx, tl) := hO.cur ⟨hO.1.1, hO.1.2.1, hbst⟩
  have hM1 : MOI 169 h1 149 th ((S, P, kn', bs'), sv, x, tx, tl) := hM.fr (fun k k1 k2 => hF k (by omega))
  obtain ⟨fs1, hob1⟩ := hM1.obj
  refine ql_aload_n (pc' := 1428) (dk_at dkL_law_6 113 rfl) rfl rfl ?_
  refine rl_cVJ (pc' := 1431) (As := []) (S := [vJ v]) cv_RL_176 (dk_at dkL_law_6 114 rfl) hob1 rfl (k_M_setupPrice (d := 30) (kn := kn') (bs := bs') (Nat.le_refl _) hM1 hO1) (by decide) (by omega) (by omega) rfl (Nat.le_of_ble_eq_true rfl) rfl (Nat.le_of_ble_eq_true rfl) rfl ?_
  rintro v' h2 ⟨e, m, g⟩
  have hfin : LwI h2 := ⟨_, 0, f, hB.frm g (by omega), hO1, m, (hA.fr (hF 168 (by omega))).fr (g 168 (by omega))⟩
  refine ql_lcmp1 (pc' := 1432) (hv.trans e.symm) (dk_at dkL_law_6 115 rfl) rfl ?_
  refine ql_if_eq (tgt := 1495) (pc' := 1435) (dk_at dkL_law_6 116 rfl) (by decide) rfl (by decide) (fun _ => ?_) (fun z => absurd rfl z)
  exact nx.go (by omega) (by omega) hfin
theorem ca_undo {Z : SX} {F : FT} {k u i : Nat} {h : PH} (hZ : Z.2.1 ≤ 3072) (hi : i + 6 ≤ Z.2.1) (hk : k + 1 ≤ 601024) (hu : u + 6 ≤ 7293034) (hL : LwI h) (nx : Nx Z F k u i) : QQ Z F k u 1437 (Lh i) [] h := by
  obtain ⟨σ, th, f, hI, hO, hM, hA⟩ := hL
  refine ql_aload_n (pc' := 1438) (dk_at dkL_law_6 119 rfl) rfl rfl ?_
  refine ql_aload_n (pc' := 1439) (dk_at dkL_law_7 0 rfl) rfl rfl ?_
  refine ql_callSW (pc' := 1442) (As := [vR 0, vR 168]) (S := []) cs_RL_177 (dk_at dkL_law_7 1 rfl) (w_undo (d := 21) (Nat.le_refl _) hI hO hA) (by decide) hk hu rfl (Nat.le_of_ble_eq_true rfl) rfl (Nat.le_of_ble_eq_true rfl) rfl ?_
  rintro r n' h1 ⟨rfl, x, v, σ', rfl, hx, hMC, hI1, hO1, ⟨f1, hA1, hf1⟩, hc⟩
  have hM1 : MOI 169 h1 149 th σ := hM.fr (fun k k1 k2 => hc k k1 (by omega))
  obtain ⟨fs1, hob1⟩ := hM1.obj
  refine ql_istore (pc' := 1444) (L' := [none, some (vR 0), some (vR 149), some (vR 168), some (vI (i : Int)), some (vI x), none, none]) (by decide) (dk_at dkL_law_7 2 rfl) (by decide) rfl rfl ?_
  refine ql_aload_n (pc' := 1445) (dk_at dkL_law_7 3 rfl) rfl rfl ?_
  refine rl_cVI (pc' := 1448) (As := []) (S := []) cv_RL_180 (dk_at dkL_law_7 4 rfl) hob1 rfl (hMC 30 h1 th (Nat.le_refl _) hM1) (by decide) (by omega) (by omega) rfl (Nat.le_of_ble_eq_true rfl) rfl (Nat.le_of_ble_eq_true rfl) rfl ?_
  rintro v' h2 ⟨hv, hM2, hF2⟩
  obtain ⟨fs2, hob2⟩ := hM2.obj
  have hfin : LwI h2 := ⟨σ', x, f1, hI1.frm hF2 (by omega), hO1, hM2, hA1.fr (hF2 168 (by omega))⟩
  refine ql_istore (pc' := 1450) (L' := [none, some (vR 0), some (vR 149), some (vR 168), some (vI (i : Int)), some (vI x), some (vI v'), none]) (by decide) (dk_at dkL_law_7 5 rfl) (by decide) rfl rfl ?_
  refine ql_aload_n (pc' := 1451) (dk_at dkL_law_7 6 rfl) rfl rfl ?_
  refine rl_cVI (pc' := 1454) (As := []) (S := []) cv_RL_85 (dk_at dkL_law_7 7 rfl) hob2 rfl (k_thr (d := 30) hM2) (by decide) (by omega) (by omega) rfl (Nat.le_of_ble_eq_true rfl) rfl (Nat.le_of_ble_eq_true rfl) rfl ?_
  rintro y h3 ⟨e3, ey⟩
  rw [e3]
  refine ql_iload (pc' := 1456) (dk_at dkL_law_7 8 rfl) rfl rfl ?_
  refine ql_icmp1 (tgt := 1461) ey (dk_at dkL_law_7 9 rfl) (by decide) ?_
  refine ql_iload (pc' := 1463) (dk_at dkL_law_7 12 rfl) rfl rfl ?_
  refine ql_if_ne (tgt := 1478) (pc' := 1466) (dk_at dkL_law_7 13 rfl) (by decide) rfl (by omega) (fun z => ?_) (fun z => ?_)
  · refine ql_goto (tgt := 1495) (dk_at dkL_law_7 23 rfl) (by decide) ?_
    exact nx.go (by omega) (by omega) hfin
  · refine ql_aload_n (pc' := 1467) (dk_at dkL_law_7 14 rfl) rfl rfl ?_
    refine ql_iconst (pc' := 1468) (dk_at dkL_law_7 15 rfl) rfl ?_
    refine rl_lald (pc' := 1469) (dk_at dkL_law_7 16 rfl) (hA1.fr (hF2 168 (by omega))) 0 rfl (by decide) (by decide) rfl ?_
    refine ql_iload (pc' := 1471) (dk_at dkL_law_7 17 rfl) rfl rfl ?_
    refine ql_i2l (pc' := 1472) (dk_at dkL_law_7 18 rfl) rfl ?_
    refine ql_lcmp1 (pc' := 1473) (by rw [hf1 (by omega), hv (by omega)]) (dk_at dkL_law_7 19 rfl) rfl ?_
    refine ql_if_eq (tgt := 1478) (pc' := 1476) (dk_at dkL_law_7 20 rfl) (by decide) rfl (by decide) (fun _ => ?_) (fun z => absurd rfl z)
    refine ql_goto (tgt := 1495) (dk_at dkL_law_7 23 rfl) (by decide) ?_
    exact nx.go (by omega) (by omega) hfin
theorem ca_digest {Z : SX} {F : FT} {k u i : Nat} {h : PH} (hZ : Z.2.1 ≤ 3072) (hi : i + 6 ≤ Z.2.1) (hk : k + 1 ≤ 601024) (hu : u + 6 ≤ 7293034) (hL : LwI h) (nx : Nx Z F k u i) : QQ Z F k u 1481 (Lh i) [] h := by
  obtain ⟨⟨⟨S, P, kn, bs⟩, sv, x, tx, tl⟩, th, f, hI, hO, hM, hA⟩ := hL
  refine ql_aload_n (pc' := 1482) (dk_at dkL_law_7 24 rfl) rfl rfl ?_
  refine rl_cVJ (pc' := 1485) (As := []) (S := []) cv_RL_181 (dk_at dkL_law_7 25 rfl) hI.1.obj rfl (k_BM_digest (d := 20) (Nat.le_refl _) hI hO) (by decide) (by omega) (by omega) rfl (Nat.le_of_ble_eq_true rfl) rfl (Nat.le_of_ble_eq_true rfl) rfl ?_
  rintro v h1 ⟨hv, kn', bs', hbst, hB, hF⟩
  have hO1 : BOk ((S, P, kn', bs'), sv, x, tx, tl) := hO.cur ⟨hO.1.1, hO.1.2.1, hbst⟩
  have hM1 : MOI 169 h1 149 th ((S, P, kn', bs'), sv, x, tx, tl) := hM.fr (fun k k1 k2 => hF k (by omega))
  obtain ⟨fs1, hob1⟩ := hM1.obj
  refine ql_aload_n (pc' := 1486) (dk_at dkL_law_7 26 rfl) rfl rfl ?_
  refine rl_cVJ (pc' := 1489) (As := []) (S := [vJ v]) cv_RL_184 (dk_at dkL_law_7 27 rfl) hob1 rfl (k_M_digest (d := 30) (kn := kn') (bs := bs') (Nat.le_refl _) hM1 hO1) (by decide) (by omega) (by omega) rfl (Nat.le_of_ble_eq_true rfl) rfl (Nat.le_of_ble_eq_true rfl) rfl ?_
  rintro v' h2 ⟨e, m, g⟩
  have hfin : LwI h2 := ⟨_, 0, f, hB.frm g (by omega), hO1, m, (hA.fr (hF 168 (by omega))).fr (g 168 (by omega))⟩
  refine ql_lcmp1 (pc' := 1490) (hv.trans e.symm) (dk_at dkL_law_7 28 rfl) rfl ?_
  refine ql_if_eq (tgt := 1495) (pc' := 1493) (dk_at dkL_law_7 29 rfl) (by decide) rfl (by decide) (fun _ => ?_) (fun z => absurd rfl z)
  exact nx.go (by omega) (by omega) hfin
