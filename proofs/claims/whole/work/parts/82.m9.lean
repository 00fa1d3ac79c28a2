/-! BatchMachineModel: the text is read -/
theorem SqP_add {S : Shp} {D : PlS} {f : Int} {us jn : Nat} (hok : RdOk S (D, f, us)) {sq op : Nat → Int} (h : SqP sq op D) : SqP (upz sq D.sz (jn : Int)) (upz op D.sz f) (addL D jn f) := by
  have hp : Pok S.cnt D.od D.en D.bc D.sz := hok.1
  have hf : f = 0 ∨ f = 1 := hok.2.1
  have h0 : f = 0 → 0 < D.sz := hok.2.2.2
  have e1 : (addL D jn f).sz = D.sz + 1 := rfl
  have e2 : (addL D jn f).bc = addB D f := rfl
  have e3 : (addL D jn f).od = upz D.od D.sz (jn : Int) := rfl
  have e4 : (addL D jn f).en = upz D.en (addB D f - 1) ((D.sz : Int) + 1) := rfl
  have hB := addB_r (fr := f) hp.2.1
  have hbc : f = 0 → 0 < D.bc := fun z => bc_pos hp (h0 z)
  have hg : ∀ b, b ≤ addB D f - 1 → bgn (addL D jn f).en b = bgn D.en b := fun b hb => by rw [e4]; exact bgn_upz hb
  have hA : (f = 1 ∧ addB D f = D.bc + 1) ∨ (f = 0 ∧ addB D f = D.bc) := by
    rcases hf with z | z
    · right
      have := hbc z
      refine ⟨z, ?_⟩
      unfold addB
      rw [if_neg (by omega)]
    · left
      refine ⟨z, ?_⟩
      unfold addB
      rw [if_pos (Or.inl z)]
  refine ⟨fun k hk => ?_, fun k hk => ?_⟩
  · rw [e1] at hk
    rw [e3]
    by_cases z : k = D.sz
    · rw [z, upz_eq, upz_eq]
    · rw [upz_ne z, upz_ne z]; exact h.1 k (by omega)
  · rw [e1] at hk
    by_cases z : k = D.sz
    · rw [z, upz_eq]
      rcases hA with ⟨a1, a2⟩ | ⟨a1, a2⟩
      · exact Or.inl ⟨a1, D.bc, by rw [e2, a2]; omega, by rw [hg _ (by omega)]; exact hp.2.2.2.2.1⟩
      · refine Or.inr ⟨a1, fun ⟨b, b1, b2⟩ => ?_⟩
        rw [e2, a2] at b1
        rw [hg b (by omega)] at b2
        have := hp.nx b1
        omega
    · rw [upz_ne z]
      have hk' : k < D.sz := by omega
      have iff : BgF (addL D jn f).en (addL D jn f).bc k ↔ BgF D.en D.bc k := by
        refine ⟨fun ⟨b, b1, b2⟩ => ?_, fun ⟨b, b1, b2⟩ => ⟨b, by rw [e2]; omega, by rw [hg b (by omega)]; exact b2⟩⟩
        rw [e2] at b1
        rw [hg b (by omega)] at b2
        by_cases y : b < D.bc
        · exact ⟨b, y, b2⟩
        · exfalso
          rw [show b = D.bc by omega, hp.2.2.2.2.1] at b2
          omega
      rcases h.2 k hk' with ⟨y1, y2⟩ | ⟨y1, y2⟩
      · exact Or.inl ⟨y1, iff.mpr y2⟩
      · exact Or.inr ⟨y1, fun y => y2 (iff.mp y)⟩
theorem rdR_one {S : Shp} {tx o e : Nat → Int} {tl : Nat} {v v' : Int} (h : rdR S tx tl o e v) (h' : rdR S tx tl o e v') : v = v' := by
  rcases h with ⟨i, i1, i2, i3, i4⟩ | ⟨i1, i2⟩ <;> rcases h' with ⟨q, q1, q2, q3, q4⟩ | ⟨q1, q2⟩
  · have : i = q := by
      rcases (show i < q ∨ i = q ∨ q < i by omega) with z | z | z
      · exact absurd (q2 i z) i3
      · exact z
      · exact absurd (i2 q z) q3
    rw [i4, q4, this]
  · exact absurd (q1 i i1) i3
  · exact absurd (i1 q q1) q3
  · rw [i2, q2]
set_option maxHeartbeats 4000000 in
set_option maxRecDepth 100000 in
theorem l_reads {d n : Nat} {h : PH} {m tn : Nat} {S : Shp} {tx0 o e : Nat → Int} {A sd ss es bo su se tx ba le fr un sF sR sT ad : Nat → Int} {sm th bm nf ne nc : Int} (hd : 2 ≤ d) (hR : MR A S) (hk : Sok S) (htl : tn ≤ 60) (htx : ∀ i, 0 ≤ tx0 i ∧ tx0 i ≤ 127) (hTx : ∀ i, i < tn → tx i = tx0 i) : ∀ (c : Nat) (k : Nat) (sq1 op1 : Nat → Int) (h1 : PH) (D : PlS) (f : Int) (us : Nat) (x4 x5 x6 : Option PV), (k + c = tn) → (rdS tx0 o e k = (D, f, us)) → (RdOk S (D, f, us)) → (∀ q, q < k → rdG S (rdS tx0 o e q) (tx0 q)) → (SqP sq1 op1 D) → (isModel n h1 m A sd sm th sq1 op1 (D.sz : Int) ss es bo su se bm tx (tn : Int) ba le fr un nf ne nc sF sR sT ad) → (Fr h h1 m (m + 19)) → QN mX6_reads d (FI n (fun x h' => rdR S tx0 tn o e x ∧ ∃ sq1 op1 D, isModel n h' m A sd sm th sq1 op1 (D.sz : Int) ss es bo su se bm tx (tn : Int) ba le fr un nf ne nc sF sR sT ad ∧ (x = -1 → D = (rdS tx0 o e tn).1 ∧ PlOk S.cnt D ∧ SqP sq1 op1 D) ∧ D.sz ≤ 8 ∧ Fr h h' m (m + 19))) 11 [some (vR m), some (vI (us : Int)), some (vI f), some (vI (k : Int)), x4, x5, x6] [] n h1 := by
  intro c
  induction c with
  | zero =>
    intro k sq1 op1 h1 D f us x4 x5 x6 hc hr hok hgo hSq hM hF
    have hf : f = 0 ∨ f = 1 := hok.2.1
    have hc8 := hk.c
    have hod : ∀ k, 0 ≤ D.od k ∧ D.od k ≤ 7 := hok.1.2.2.1
    have hu1 : us = stO D.od 0 D.sz := hok.2.2.1
    have hus : us < 256 := by
      have e2 : stO D.od 0 D.sz < 2 ^ 8 := stO_lt D.sz (fun k _ => by have := hod (0 + k); unfold jb; omega)
      omega
    have htxi := htx k
    have hs8 : D.sz ≤ 8 := hok.1.1
    have hs0 : f = 0 → 0 < D.sz := hok.2.2.2
    refine q_iload_n (pc' := 12) (dk_at dkX6_reads 9 rfl) rfl rfl ?_
    refine q_aload_n (pc' := 13) (dk_at dkX6_reads 10 rfl) rfl rfl ?_
    refine r_getf (pc' := 16) fl_RX6_151 (dk_at dkX6_reads 11 rfl) hM.obj rfl rfl ?_
    refine q_icmp_ge (tgt := 168) (pc' := 19) (dk_at dkX6_reads 12 rfl) rfl rfl (by omega) (by omega) (fun c16 => ?_) (fun c16 => ?_)
    · refine q_iload_n (pc' := 169) (dk_at dkX6_reads 97 rfl) rfl rfl ?_
      refine q_if_eq (tgt := 186) (pc' := 172) (dk_at dkX6_reads 98 rfl) rfl rfl (by omega) (fun c169 => ?_) (fun c169 => ?_)
      · refine q_iconst (pc' := 187) (dk_at dkX6_reads 105 rfl) rfl ?_
        refine r_iret rfl (dk_at dkX6_reads 106 rfl) ?_
        have ei : k = tn := by omega
        refine ⟨Or.inr ⟨fun q hq => hgo q (by omega), ?_⟩, sq1, op1, D, hM, (fun z => ⟨by rw [← ei, hr], hok.1, hSq⟩), hok.1.1, hF⟩
        rw [← ei, hr]
        rw [if_neg (by dsimp only; omega)]
      · refine q_aload_n (pc' := 173) (dk_at dkX6_reads 99 rfl) rfl rfl ?_
        refine r_getf (pc' := 176) fl_RX6_151 (dk_at dkX6_reads 100 rfl) hM.obj rfl rfl ?_
        refine q_if_le (tgt := 186) (pc' := 179) (dk_at dkX6_reads 101 rfl) rfl rfl (by omega) (fun c176 => ?_) (fun c176 => ?_)
        · refine q_iconst (pc' := 187) (dk_at dkX6_reads 105 rfl) rfl ?_
          refine r_iret rfl (dk_at dkX6_reads 106 rfl) ?_
          have ei : k = tn := by omega
          refine ⟨Or.inr ⟨fun q hq => hgo q (by omega), ?_⟩, sq1, op1, D, hM, (fun z => ⟨by rw [← ei, hr], hok.1, hSq⟩), hok.1.1, hF⟩
          rw [← ei, hr]
          rw [if_neg (by dsimp only; omega)]
        · refine q_aload_n (pc' := 180) (dk_at dkX6_reads 102 rfl) rfl rfl ?_
          refine r_getf (pc' := 183) fl_RX6_151 (dk_at dkX6_reads 103 rfl) hM.obj rfl rfl ?_
          refine q_goto (tgt := 187) (dk_at dkX6_reads 104 rfl) rfl ?_
          refine r_iret rfl (dk_at dkX6_reads 106 rfl) ?_
          have ei : k = tn := by omega
          refine ⟨Or.inr ⟨fun q hq => hgo q (by omega), ?_⟩, sq1, op1, D, hM, (fun z => ⟨by rw [← ei, hr], hok.1, hSq⟩), hok.1.1, hF⟩
          rw [← ei, hr]
          rw [if_pos ⟨by dsimp only; omega, by omega⟩]
    · exfalso
      omega
  | succ c ih =>
    intro k sq1 op1 h1 D f us x4 x5 x6 hc hr hok hgo hSq hM hF
    have hf : f = 0 ∨ f = 1 := hok.2.1
    have hc8 := hk.c
    have hod : ∀ k, 0 ≤ D.od k ∧ D.od k ≤ 7 := hok.1.2.2.1
    have hu1 : us = stO D.od 0 D.sz := hok.2.2.1
    have hus : us < 256 := by
      have e2 : stO D.od 0 D.sz < 2 ^ 8 := stO_lt D.sz (fun k _ => by have := hod (0 + k); unfold jb; omega)
      omega
    have htxi := htx k
    have hs8 : D.sz ≤ 8 := hok.1.1
    have hs0 : f = 0 → 0 < D.sz := hok.2.2.2
    refine q_iload_n (pc' := 12) (dk_at dkX6_reads 9 rfl) rfl rfl ?_
    refine q_aload_n (pc' := 13) (dk_at dkX6_reads 10 rfl) rfl rfl ?_
    refine r_getf (pc' := 16) fl_RX6_151 (dk_at dkX6_reads 11 rfl) hM.obj rfl rfl ?_
    refine q_icmp_ge (tgt := 168) (pc' := 19) (dk_at dkX6_reads 12 rfl) rfl rfl (by omega) (by omega) (fun c16 => ?_) (fun c16 => ?_)
    · refine q_iload_n (pc' := 169) (dk_at dkX6_reads 97 rfl) rfl rfl ?_
      refine q_if_eq (tgt := 186) (pc' := 172) (dk_at dkX6_reads 98 rfl) rfl rfl (by omega) (fun c169 => ?_) (fun c169 => ?_)
      · refine q_iconst (pc' := 187) (dk_at dkX6_reads 105 rfl) rfl ?_
        refine r_iret rfl (dk_at dkX6_reads 106 rfl) ?_
        have ei : k = tn := by omega
        refine ⟨Or.inr ⟨fun q hq => hgo q (by omega), ?_⟩, sq1, op1, D, hM, (fun z => ⟨by rw [← ei, hr], hok.1, hSq⟩), hok.1.1, hF⟩
        rw [← ei, hr]
        rw [if_neg (by dsimp only; omega)]
      · refine q_aload_n (pc' := 173) (dk_at dkX6_reads 99 rfl) rfl rfl ?_
        refine r_getf (pc' := 176) fl_RX6_151 (dk_at dkX6_reads 100 rfl) hM.obj rfl rfl ?_
        refine q_if_le (tgt := 186) (pc' := 179) (dk_at dkX6_reads 101 rfl) rfl rfl (by omega) (fun c176 => ?_) (fun c176 => ?_)
        · refine q_iconst (pc' := 187) (dk_at dkX6_reads 105 rfl) rfl ?_
          refine r_iret rfl (dk_at dkX6_reads 106 rfl) ?_
          have ei : k = tn := by omega
          refine ⟨Or.inr ⟨fun q hq => hgo q (by omega), ?_⟩, sq1, op1, D, hM, (fun z => ⟨by rw [← ei, hr], hok.1, hSq⟩), hok.1.1, hF⟩
          rw [← ei, hr]
          rw [if_neg (by dsimp only; omega)]
        · refine q_aload_n (pc' := 180) (dk_at dkX6_reads 102 rfl) rfl rfl ?_
          refine r_getf (pc' := 183) fl_RX6_151 (dk_at dkX6_reads 103 rfl) hM.obj rfl rfl ?_
          refine q_goto (tgt := 187) (dk_at dkX6_reads 104 rfl) rfl ?_
          refine r_iret rfl (dk_at dkX6_reads 106 rfl) ?_
          have ei : k = tn := by omega
          refine ⟨Or.inr ⟨fun q hq => hgo q (by omega), ?_⟩, sq1, op1, D, hM, (fun z => ⟨by rw [← ei, hr], hok.1, hSq⟩), hok.1.1, hF⟩
          rw [← ei, hr]
          rw [if_pos ⟨by dsimp only; omega, by omega⟩]
    · refine q_aload_n (pc' := 20) (dk_at dkX6_reads 13 rfl) rfl rfl ?_
      refine r_getf (pc' := 23) fl_RX6_37 (dk_at dkX6_reads 14 rfl) hM.obj rfl rfl ?_
      refine q_iload_n (pc' := 24) (dk_at dkX6_reads 15 rfl) rfl rfl ?_
      refine r_iald (pc' := 25) (dk_at dkX6_reads 16 rfl) hM.text k (by omega) (by omega) (by decide) rfl ?_
      rw [hTx k (by omega)]
      refine q_istore (pc' := 27) (L' := [some (vR m), some (vI (us : Int)), some (vI f), some (vI (k : Int)), some (vI (tx0 k)), x5, x6]) (dk_at dkX6_reads 17 rfl) (by decide) rfl rfl ?_
      refine q_iload (pc' := 29) (dk_at dkX6_reads 18 rfl) rfl rfl ?_
      refine q_bipush (pc' := 31) (dk_at dkX6_reads 19 rfl) (by decide +kernel) rfl ?_
      refine q_icmp_ne (tgt := 45) (pc' := 34) (dk_at dkX6_reads 20 rfl) rfl rfl (by omega) (by omega) (fun c31 => ?_) (fun c31 => ?_)
      · refine q_iload (pc' := 47) (dk_at dkX6_reads 28 rfl) rfl rfl ?_
        refine q_bipush (pc' := 49) (dk_at dkX6_reads 29 rfl) (by decide +kernel) rfl ?_
        refine q_isub (pc' := 50) (dk_at dkX6_reads 30 rfl) rfl ?_
        refine q_istore (pc' := 52) (L' := [some (vR m), some (vI (us : Int)), some (vI f), some (vI (k : Int)), some (vI (tx0 k)), some (vI ((tx0 k) - 48)), x6]) (dk_at dkX6_reads 31 rfl) (by decide) rfl rfl ?_
        refine q_aload_n (pc' := 53) (dk_at dkX6_reads 32 rfl) rfl rfl ?_
        refine q_iload (pc' := 55) (dk_at dkX6_reads 33 rfl) rfl rfl ?_
        refine r_cVI (pc' := 58) (As := [vI ((tx0 k) - 48)]) (S := []) cv_RX6_98 (dk_at dkX6_reads 34 rfl) hM.obj rfl (k_M_isJob (d := 1) (by omega) hR hk.c (by omega) hM) (by omega) (Nat.zero_le _) (Nat.zero_le _) rfl (Nat.le_of_ble_eq_true rfl) rfl (Nat.le_of_ble_eq_true rfl) rfl (fun xx1 hh2 hphh2 => ?_)
        obtain ⟨qq3, y55⟩ := hphh2
        rw [qq3]
        have yr55 := y55.r
        refine q_if_eq (tgt := 74) (pc' := 61) (dk_at dkX6_reads 35 rfl) rfl rfl (by omega) (fun c58 => ?_) (fun c58 => ?_)
        · refine q_iconst (pc' := 75) (dk_at dkX6_reads 42 rfl) rfl ?_
          refine q_istore (pc' := 77) (L' := [some (vR m), some (vI (us : Int)), some (vI f), some (vI (k : Int)), some (vI (tx0 k)), some (vI ((tx0 k) - 48)), some (vI 0)]) (dk_at dkX6_reads 43 rfl) (by decide) rfl rfl ?_
          refine q_iload (pc' := 79) (dk_at dkX6_reads 44 rfl) rfl rfl ?_
          refine q_if_eq (tgt := 112) (pc' := 82) (dk_at dkX6_reads 45 rfl) rfl rfl (by omega) (fun c79 => ?_) (fun c79 => ?_)
          · refine q_iload_n (pc' := 113) (dk_at dkX6_reads 63 rfl) rfl rfl ?_
            refine r_iret rfl (dk_at dkX6_reads 64 rfl) ?_
            exact ⟨Or.inl ⟨k, by omega, hgo, by rw [hr]; intro z; unfold rdG at z; rw [if_neg (by omega)] at z; exact y55.f c58 z.1, rfl⟩, sq1, op1, D, hM, (fun z => by omega), hok.1.1, hF⟩
          · exfalso
            omega
        · have yj := y55.t c58
          unfold jOk at yj
          obtain ⟨jn, ej⟩ : ∃ jn : Nat, tx0 k - 48 = (jn : Int) := ⟨(tx0 k - 48).toNat, by omega⟩
          rw [ej]
          rw [ej] at yj
          refine q_iload_n (pc' := 62) (dk_at dkX6_reads 36 rfl) rfl rfl ?_
          refine q_iload (pc' := 64) (dk_at dkX6_reads 37 rfl) rfl rfl ?_
          refine r_cSI (pc' := 67) (As := [vI (us : Int), vI (jn : Int)]) (S := []) cs_RX6_154 (dk_at dkX6_reads 38 rfl) (k_M_has (d := 0) (s := us) (k := jn) (by omega) (by omega)) (by omega) (Nat.zero_le _) (Nat.zero_le _) rfl (Nat.le_of_ble_eq_true rfl) rfl (Nat.le_of_ble_eq_true rfl) rfl (fun xx4 hh5 hphh5 => ?_)
          obtain ⟨qq6, y64⟩ := hphh5
          rw [qq6]
          have yr64 := y64.r
          refine q_if_ne (tgt := 74) (pc' := 70) (dk_at dkX6_reads 39 rfl) rfl rfl (by omega) (fun c67 => ?_) (fun c67 => ?_)
          · refine q_iconst (pc' := 75) (dk_at dkX6_reads 42 rfl) rfl ?_
            refine q_istore (pc' := 77) (L' := [some (vR m), some (vI (us : Int)), some (vI f), some (vI (k : Int)), some (vI (tx0 k)), some (vI (jn : Int)), some (vI 0)]) (dk_at dkX6_reads 43 rfl) (by decide) rfl rfl ?_
            refine q_iload (pc' := 79) (dk_at dkX6_reads 44 rfl) rfl rfl ?_
            refine q_if_eq (tgt := 112) (pc' := 82) (dk_at dkX6_reads 45 rfl) rfl rfl (by omega) (fun c79 => ?_) (fun c79 => ?_)
            · refine q_iload_n (pc' := 113) (dk_at dkX6_reads 63 rfl) rfl rfl ?_
              refine r_iret rfl (dk_at dkX6_reads 64 rfl) ?_
              exact ⟨Or.inl ⟨k, by omega, hgo, by rw [hr]; intro z; exact ((rdG_j (by omega) ej).mp z).2.1 (y64.t (by omega)), rfl⟩, sq1, op1, D, hM, (fun z => by omega), hok.1.1, hF⟩
            · exfalso
              omega
          · refine q_iconst (pc' := 71) (dk_at dkX6_reads 40 rfl) rfl ?_
            refine q_goto (tgt := 75) (dk_at dkX6_reads 41 rfl) rfl ?_
            refine q_istore (pc' := 77) (L' := [some (vR m), some (vI (us : Int)), some (vI f), some (vI (k : Int)), some (vI (tx0 k)), some (vI (jn : Int)), some (vI 1)]) (dk_at dkX6_reads 43 rfl) (by decide) rfl rfl ?_
            refine q_iload (pc' := 79) (dk_at dkX6_reads 44 rfl) rfl rfl ?_
            refine q_if_eq (tgt := 112) (pc' := 82) (dk_at dkX6_reads 45 rfl) rfl rfl (by omega) (fun c79 => ?_) (fun c79 => ?_)
            · exfalso
              omega
            · refine q_iload_n (pc' := 83) (dk_at dkX6_reads 46 rfl) rfl rfl ?_
              refine q_if_ne (tgt := 114) (pc' := 86) (dk_at dkX6_reads 47 rfl) rfl rfl (by omega) (fun c83 => ?_) (fun c83 => ?_)
              · have hbn := y64.f (by omega)
                have hgd : rdG S (D, f, us) (tx0 k) := (rdG_j (by omega) ej).mpr ⟨yj, hbn, (Or.inl (by omega))⟩
                have hpa := PlOk.add hk.c hok.1 (jn := jn) (by omega) (fun q hq e => hbn (by rw [hu1]; exact (stO_bit D.sz).mpr ⟨q, hq, by rw [Nat.zero_add]; exact e⟩)) f
                have hlt : D.sz < 8 := hpa.1
                refine q_iload_n (pc' := 115) (dk_at dkX6_reads 65 rfl) rfl rfl ?_
                refine q_iconst (pc' := 116) (dk_at dkX6_reads 66 rfl) rfl ?_
                refine q_iload (pc' := 118) (dk_at dkX6_reads 67 rfl) rfl rfl ?_
                refine q_ishl (pc' := 119) (dk_at dkX6_reads 68 rfl) (by omega) (by omega) rfl ?_
                have bb7 := nt_pow_r (j := jn) (by omega)
                rw [show ((1 : Int) * 2 ^ ((jn : Int)).toNat) = ((2 ^ jn : Nat) : Int) from nt_shl1 jn]
                refine q_ior (pc' := 120) (dk_at dkX6_reads 69 rfl) (by omega) (by omega) rfl ?_
                rw [show ((((us : Int)).toNat ||| (((2 ^ jn : Nat) : Int)).toNat : Nat) : Int) = ((us ||| (2 ^ jn) : Nat) : Int) from nt_or us (2 ^ jn)]
                refine q_istore_n (pc' := 121) (L' := [some (vR m), some (vI ((us ||| (2 ^ jn) : Nat) : Int)), some (vI f), some (vI (k : Int)), some (vI (tx0 k)), some (vI (jn : Int)), some (vI 1)]) (dk_at dkX6_reads 70 rfl) (by decide) rfl rfl ?_
                refine q_aload_n (pc' := 122) (dk_at dkX6_reads 71 rfl) rfl rfl ?_
                refine r_getf (pc' := 125) fl_RX6_16 (dk_at dkX6_reads 72 rfl) hM.obj rfl rfl ?_
                refine q_aload_n (pc' := 126) (dk_at dkX6_reads 73 rfl) rfl rfl ?_
                refine r_getf (pc' := 129) fl_RX6_119 (dk_at dkX6_reads 74 rfl) hM.obj rfl rfl ?_
                refine q_iload (pc' := 131) (dk_at dkX6_reads 75 rfl) rfl rfl ?_
                refine r_iast (pc' := 132) (dk_at dkX6_reads 76 rfl) hM.sequence D.sz (by omega) (by omega) (by decide) rfl (fun hh8 ehh8 => ?_)
                have hM := hM.w_sequence ehh8
                have hF := hF.put ehh8 (by omega)
                refine q_aload_n (pc' := 133) (dk_at dkX6_reads 77 rfl) rfl rfl ?_
                refine r_getf (pc' := 136) fl_RX6_19 (dk_at dkX6_reads 78 rfl) hM.obj rfl rfl ?_
                refine q_aload_n (pc' := 137) (dk_at dkX6_reads 79 rfl) rfl rfl ?_
                refine r_getf (pc' := 140) fl_RX6_119 (dk_at dkX6_reads 80 rfl) hM.obj rfl rfl ?_
                refine q_iload_n (pc' := 141) (dk_at dkX6_reads 81 rfl) rfl rfl ?_
                refine q_if_eq (tgt := 148) (pc' := 144) (dk_at dkX6_reads 82 rfl) rfl rfl (by omega) (fun c141 => ?_) (fun c141 => ?_)
                · refine q_iconst (pc' := 149) (dk_at dkX6_reads 85 rfl) rfl ?_
                  refine r_iast (pc' := 150) (dk_at dkX6_reads 86 rfl) hM.opens D.sz (by omega) (by omega) (by decide) rfl (fun hh9 ehh9 => ?_)
                  have hM := hM.w_opens ehh9
                  have hF := hF.put ehh9 (by omega)
                  refine q_aload_n (pc' := 151) (dk_at dkX6_reads 87 rfl) rfl rfl ?_
                  refine q_dup (pc' := 152) (fun _ => rfl) (dk_at dkX6_reads 88 rfl) rfl ?_
                  refine r_getf (pc' := 155) fl_RX6_119 (dk_at dkX6_reads 89 rfl) hM.obj rfl rfl ?_
                  refine q_iconst (pc' := 156) (dk_at dkX6_reads 90 rfl) rfl ?_
                  refine q_iadd (pc' := 157) (dk_at dkX6_reads 91 rfl) rfl ?_
                  refine r_putf (pc' := 160) fp_RX6_119 (dk_at dkX6_reads 92 rfl) hM.obj (Nat.le_of_ble_eq_true rfl) (PT_int _) rfl (fun hh10 ehh10 => ?_)
                  have hM := hM.w_obj ehh10
                  have hF := hF.put ehh10 (by omega)
                  refine q_iconst (pc' := 161) (dk_at dkX6_reads 93 rfl) rfl ?_
                  refine q_istore_n (pc' := 162) (L' := [some (vR m), some (vI ((us ||| (2 ^ jn) : Nat) : Int)), some (vI 0), some (vI (k : Int)), some (vI (tx0 k)), some (vI (jn : Int)), some (vI 1)]) (dk_at dkX6_reads 94 rfl) (by decide) rfl rfl ?_
                  refine q_iinc (pc' := 165) (L' := [some (vR m), some (vI ((us ||| (2 ^ jn) : Nat) : Int)), some (vI 0), some (vI ((k : Int) + 1)), some (vI (tx0 k)), some (vI (jn : Int)), some (vI 1)]) (dk_at dkX6_reads 95 rfl) (by decide) rfl rfl rfl ?_
                  rw [show ((k : Int) + 1) = ((k + 1 : Nat) : Int) by omega]
                  refine q_goto (tgt := 11) (dk_at dkX6_reads 96 rfl) rfl ?_
                  have ef : f = 0 := by omega
                  have hSq2 := SqP_add (jn := jn) hok hSq
                  rw [show upz op1 D.sz f = upz op1 D.sz 0 by rw [ef]] at hSq2
                  refine ih (k + 1) _ _ _ (addL D jn f) 0 (us ||| 2 ^ jn) _ _ _ (by omega) (by show rdN (rdS tx0 o e k) (tx0 k) = _; rw [hr]; exact rdN_j (by omega) ej) (by have z := rd_ok hk.c hok hgd; rw [rdN_j (by omega) ej] at z; exact z) (fun q hq => ?_) hSq2 hM hF
                  by_cases z : q = k
                  · rw [z, hr]; exact hgd
                  · exact hgo q (by omega)
                · refine q_iconst (pc' := 145) (dk_at dkX6_reads 83 rfl) rfl ?_
                  refine q_goto (tgt := 149) (dk_at dkX6_reads 84 rfl) rfl ?_
                  refine r_iast (pc' := 150) (dk_at dkX6_reads 86 rfl) hM.opens D.sz (by omega) (by omega) (by decide) rfl (fun hh11 ehh11 => ?_)
                  have hM := hM.w_opens ehh11
                  have hF := hF.put ehh11 (by omega)
                  refine q_aload_n (pc' := 151) (dk_at dkX6_reads 87 rfl) rfl rfl ?_
                  refine q_dup (pc' := 152) (fun _ => rfl) (dk_at dkX6_reads 88 rfl) rfl ?_
                  refine r_getf (pc' := 155) fl_RX6_119 (dk_at dkX6_reads 89 rfl) hM.obj rfl rfl ?_
                  refine q_iconst (pc' := 156) (dk_at dkX6_reads 90 rfl) rfl ?_
                  refine q_iadd (pc' := 157) (dk_at dkX6_reads 91 rfl) rfl ?_
                  refine r_putf (pc' := 160) fp_RX6_119 (dk_at dkX6_reads 92 rfl) hM.obj (Nat.le_of_ble_eq_true rfl) (PT_int _) rfl (fun hh12 ehh12 => ?_)
                  have hM := hM.w_obj ehh12
                  have hF := hF.put ehh12 (by omega)
                  refine q_iconst (pc' := 161) (dk_at dkX6_reads 93 rfl) rfl ?_
                  refine q_istore_n (pc' := 162) (L' := [some (vR m), some (vI ((us ||| (2 ^ jn) : Nat) : Int)), some (vI 0), some (vI (k : Int)), some (vI (tx0 k)), some (vI (jn : Int)), some (vI 1)]) (dk_at dkX6_reads 94 rfl) (by decide) rfl rfl ?_
                  refine q_iinc (pc' := 165) (L' := [some (vR m), some (vI ((us ||| (2 ^ jn) : Nat) : Int)), some (vI 0), some (vI ((k : Int) + 1)), some (vI (tx0 k)), some (vI (jn : Int)), some (vI 1)]) (dk_at dkX6_reads 95 rfl) (by decide) rfl rfl rfl ?_
                  rw [show ((k : Int) + 1) = ((k + 1 : Nat) : Int) by omega]
                  refine q_goto (tgt := 11) (dk_at dkX6_reads 96 rfl) rfl ?_
                  have ef : f = 1 := by omega
                  have hSq2 := SqP_add (jn := jn) hok hSq
                  rw [show upz op1 D.sz f = upz op1 D.sz 1 by rw [ef]] at hSq2
                  refine ih (k + 1) _ _ _ (addL D jn f) 0 (us ||| 2 ^ jn) _ _ _ (by omega) (by show rdN (rdS tx0 o e k) (tx0 k) = _; rw [hr]; exact rdN_j (by omega) ej) (by have z := rd_ok hk.c hok hgd; rw [rdN_j (by omega) ej] at z; exact z) (fun q hq => ?_) hSq2 hM hF
                  by_cases z : q = k
                  · rw [z, hr]; exact hgd
                  · exact hgo q (by omega)
              · refine q_aload_n (pc' := 87) (dk_at dkX6_reads 48 rfl) rfl rfl ?_
                refine q_iload (pc' := 89) (dk_at dkX6_reads 49 rfl) rfl rfl ?_
                refine q_iconst (pc' := 90) (dk_at dkX6_reads 50 rfl) rfl ?_
                refine r_cVI (pc' := 93) (As := [vI (jn : Int), vI 0]) (S := []) cv_RX6_104 (dk_at dkX6_reads 51 rfl) hM.obj rfl (k_M_of (d := 0) (j := jn) (w := 0) hR hk.c rfl rfl (by omega) (by omega) hM) (by omega) (Nat.zero_le _) (Nat.zero_le _) rfl (Nat.le_of_ble_eq_true rfl) rfl (Nat.le_of_ble_eq_true rfl) rfl (fun xx13 hh14 hphh14 => ?_)
                obtain ⟨qq15, rfl⟩ := hphh14
                rw [qq15]
                have bb16 := hk.v 0 jn
                refine q_aload_n (pc' := 94) (dk_at dkX6_reads 52 rfl) rfl rfl ?_
                refine q_aload_n (pc' := 95) (dk_at dkX6_reads 53 rfl) rfl rfl ?_
                refine r_getf (pc' := 98) fl_RX6_16 (dk_at dkX6_reads 54 rfl) hM.obj rfl rfl ?_
                refine q_aload_n (pc' := 99) (dk_at dkX6_reads 55 rfl) rfl rfl ?_
                refine r_getf (pc' := 102) fl_RX6_119 (dk_at dkX6_reads 56 rfl) hM.obj rfl rfl ?_
                refine q_iconst (pc' := 103) (dk_at dkX6_reads 57 rfl) rfl ?_
                refine q_isub (pc' := 104) (dk_at dkX6_reads 58 rfl) rfl ?_
                refine r_iald (pc' := 105) (dk_at dkX6_reads 59 rfl) hM.sequence (D.sz - 1) (by omega) (by omega) (by decide) rfl ?_
                refine q_iconst (pc' := 106) (dk_at dkX6_reads 60 rfl) rfl ?_
                refine r_cVI (pc' := 109) (As := [vI (sq1 (D.sz - 1)), vI 0]) (S := [vI (S.V 0 jn)]) cv_RX6_104 (dk_at dkX6_reads 61 rfl) hM.obj rfl (k_M_of (d := 0) (j := jb D.od (D.sz - 1)) (w := 0) hR hk.c (sqj hok.1 hSq.1 (D.sz - 1) (by show D.sz - 1 < D.sz; omega)).2 rfl (sqj hok.1 hSq.1 (D.sz - 1) (by show D.sz - 1 < D.sz; omega)).1 (by omega) hM) (by omega) (Nat.zero_le _) (Nat.zero_le _) rfl (Nat.le_of_ble_eq_true rfl) rfl (Nat.le_of_ble_eq_true rfl) rfl (fun xx17 hh18 hphh18 => ?_)
                obtain ⟨qq19, rfl⟩ := hphh18
                rw [qq19]
                have bb20 := hk.v 0 (jb D.od (D.sz - 1))
                refine q_icmp_eq (tgt := 114) (pc' := 112) (dk_at dkX6_reads 62 rfl) rfl rfl (by omega) (by omega) (fun c109 => ?_) (fun c109 => ?_)
                · have hbn := y64.f (by omega)
                  have hgd : rdG S (D, f, us) (tx0 k) := (rdG_j (by omega) ej).mpr ⟨yj, hbn, (Or.inr ⟨hok.2.2.2 (by dsimp only; omega), (c109 : _ = _).symm⟩)⟩
                  have hpa := PlOk.add hk.c hok.1 (jn := jn) (by omega) (fun q hq e => hbn (by rw [hu1]; exact (stO_bit D.sz).mpr ⟨q, hq, by rw [Nat.zero_add]; exact e⟩)) f
                  have hlt : D.sz < 8 := hpa.1
                  refine q_iload_n (pc' := 115) (dk_at dkX6_reads 65 rfl) rfl rfl ?_
                  refine q_iconst (pc' := 116) (dk_at dkX6_reads 66 rfl) rfl ?_
                  refine q_iload (pc' := 118) (dk_at dkX6_reads 67 rfl) rfl rfl ?_
                  refine q_ishl (pc' := 119) (dk_at dkX6_reads 68 rfl) (by omega) (by omega) rfl ?_
                  have bb21 := nt_pow_r (j := jn) (by omega)
                  rw [show ((1 : Int) * 2 ^ ((jn : Int)).toNat) = ((2 ^ jn : Nat) : Int) from nt_shl1 jn]
                  refine q_ior (pc' := 120) (dk_at dkX6_reads 69 rfl) (by omega) (by omega) rfl ?_
                  rw [show ((((us : Int)).toNat ||| (((2 ^ jn : Nat) : Int)).toNat : Nat) : Int) = ((us ||| (2 ^ jn) : Nat) : Int) from nt_or us (2 ^ jn)]
                  refine q_istore_n (pc' := 121) (L' := [some (vR m), some (vI ((us ||| (2 ^ jn) : Nat) : Int)), some (vI f), some (vI (k : Int)), some (vI (tx0 k)), some (vI (jn : Int)), some (vI 1)]) (dk_at dkX6_reads 70 rfl) (by decide) rfl rfl ?_
                  refine q_aload_n (pc' := 122) (dk_at dkX6_reads 71 rfl) rfl rfl ?_
                  refine r_getf (pc' := 125) fl_RX6_16 (dk_at dkX6_reads 72 rfl) hM.obj rfl rfl ?_
                  refine q_aload_n (pc' := 126) (dk_at dkX6_reads 73 rfl) rfl rfl ?_
                  refine r_getf (pc' := 129) fl_RX6_119 (dk_at dkX6_reads 74 rfl) hM.obj rfl rfl ?_
                  refine q_iload (pc' := 131) (dk_at dkX6_reads 75 rfl) rfl rfl ?_
                  refine r_iast (pc' := 132) (dk_at dkX6_reads 76 rfl) hM.sequence D.sz (by omega) (by omega) (by decide) rfl (fun hh22 ehh22 => ?_)
                  have hM := hM.w_sequence ehh22
                  have hF := hF.put ehh22 (by omega)
                  refine q_aload_n (pc' := 133) (dk_at dkX6_reads 77 rfl) rfl rfl ?_
                  refine r_getf (pc' := 136) fl_RX6_19 (dk_at dkX6_reads 78 rfl) hM.obj rfl rfl ?_
                  refine q_aload_n (pc' := 137) (dk_at dkX6_reads 79 rfl) rfl rfl ?_
                  refine r_getf (pc' := 140) fl_RX6_119 (dk_at dkX6_reads 80 rfl) hM.obj rfl rfl ?_
                  refine q_iload_n (pc' := 141) (dk_at dkX6_reads 81 rfl) rfl rfl ?_
                  refine q_if_eq (tgt := 148) (pc' := 144) (dk_at dkX6_reads 82 rfl) rfl rfl (by omega) (fun c141 => ?_) (fun c141 => ?_)
                  · refine q_iconst (pc' := 149) (dk_at dkX6_reads 85 rfl) rfl ?_
                    refine r_iast (pc' := 150) (dk_at dkX6_reads 86 rfl) hM.opens D.sz (by omega) (by omega) (by decide) rfl (fun hh23 ehh23 => ?_)
                    have hM := hM.w_opens ehh23
                    have hF := hF.put ehh23 (by omega)
                    refine q_aload_n (pc' := 151) (dk_at dkX6_reads 87 rfl) rfl rfl ?_
                    refine q_dup (pc' := 152) (fun _ => rfl) (dk_at dkX6_reads 88 rfl) rfl ?_
                    refine r_getf (pc' := 155) fl_RX6_119 (dk_at dkX6_reads 89 rfl) hM.obj rfl rfl ?_
                    refine q_iconst (pc' := 156) (dk_at dkX6_reads 90 rfl) rfl ?_
                    refine q_iadd (pc' := 157) (dk_at dkX6_reads 91 rfl) rfl ?_
                    refine r_putf (pc' := 160) fp_RX6_119 (dk_at dkX6_reads 92 rfl) hM.obj (Nat.le_of_ble_eq_true rfl) (PT_int _) rfl (fun hh24 ehh24 => ?_)
                    have hM := hM.w_obj ehh24
                    have hF := hF.put ehh24 (by omega)
                    refine q_iconst (pc' := 161) (dk_at dkX6_reads 93 rfl) rfl ?_
                    refine q_istore_n (pc' := 162) (L' := [some (vR m), some (vI ((us ||| (2 ^ jn) : Nat) : Int)), some (vI 0), some (vI (k : Int)), some (vI (tx0 k)), some (vI (jn : Int)), some (vI 1)]) (dk_at dkX6_reads 94 rfl) (by decide) rfl rfl ?_
                    refine q_iinc (pc' := 165) (L' := [some (vR m), some (vI ((us ||| (2 ^ jn) : Nat) : Int)), some (vI 0), some (vI ((k : Int) + 1)), some (vI (tx0 k)), some (vI (jn : Int)), some (vI 1)]) (dk_at dkX6_reads 95 rfl) (by decide) rfl rfl rfl ?_
                    rw [show ((k : Int) + 1) = ((k + 1 : Nat) : Int) by omega]
                    refine q_goto (tgt := 11) (dk_at dkX6_reads 96 rfl) rfl ?_
                    have ef : f = 0 := by omega
                    have hSq2 := SqP_add (jn := jn) hok hSq
                    rw [show upz op1 D.sz f = upz op1 D.sz 0 by rw [ef]] at hSq2
                    refine ih (k + 1) _ _ _ (addL D jn f) 0 (us ||| 2 ^ jn) _ _ _ (by omega) (by show rdN (rdS tx0 o e k) (tx0 k) = _; rw [hr]; exact rdN_j (by omega) ej) (by have z := rd_ok hk.c hok hgd; rw [rdN_j (by omega) ej] at z; exact z) (fun q hq => ?_) hSq2 hM hF
                    by_cases z : q = k
                    · rw [z, hr]; exact hgd
                    · exact hgo q (by omega)
                  · refine q_iconst (pc' := 145) (dk_at dkX6_reads 83 rfl) rfl ?_
                    refine q_goto (tgt := 149) (dk_at dkX6_reads 84 rfl) rfl ?_
                    refine r_iast (pc' := 150) (dk_at dkX6_reads 86 rfl) hM.opens D.sz (by omega) (by omega) (by decide) rfl (fun hh25 ehh25 => ?_)
                    have hM := hM.w_opens ehh25
                    have hF := hF.put ehh25 (by omega)
                    refine q_aload_n (pc' := 151) (dk_at dkX6_reads 87 rfl) rfl rfl ?_
                    refine q_dup (pc' := 152) (fun _ => rfl) (dk_at dkX6_reads 88 rfl) rfl ?_
                    refine r_getf (pc' := 155) fl_RX6_119 (dk_at dkX6_reads 89 rfl) hM.obj rfl rfl ?_
                    refine q_iconst (pc' := 156) (dk_at dkX6_reads 90 rfl) rfl ?_
                    refine q_iadd (pc' := 157) (dk_at dkX6_reads 91 rfl) rfl ?_
                    refine r_putf (pc' := 160) fp_RX6_119 (dk_at dkX6_reads 92 rfl) hM.obj (Nat.le_of_ble_eq_true rfl) (PT_int _) rfl (fun hh26 ehh26 => ?_)
                    have hM := hM.w_obj ehh26
                    have hF := hF.put ehh26 (by omega)
                    refine q_iconst (pc' := 161) (dk_at dkX6_reads 93 rfl) rfl ?_
                    refine q_istore_n (pc' := 162) (L' := [some (vR m), some (vI ((us ||| (2 ^ jn) : Nat) : Int)), some (vI 0), some (vI (k : Int)), some (vI (tx0 k)), some (vI (jn : Int)), some (vI 1)]) (dk_at dkX6_reads 94 rfl) (by decide) rfl rfl ?_
                    refine q_iinc (pc' := 165) (L' := [some (vR m), some (vI ((us ||| (2 ^ jn) : Nat) : Int)), some (vI 0), some (vI ((k : Int) + 1)), some (vI (tx0 k)), some (vI (jn : Int)), some (vI 1)]) (dk_at dkX6_reads 95 rfl) (by decide) rfl rfl rfl ?_
                    rw [show ((k : Int) + 1) = ((k + 1 : Nat) : Int) by omega]
                    refine q_goto (tgt := 11) (dk_at dkX6_reads 96 rfl) rfl ?_
                    have ef : f = 1 := by omega
                    have hSq2 := SqP_add (jn := jn) hok hSq
                    rw [show upz op1 D.sz f = upz op1 D.sz 1 by rw [ef]] at hSq2
                    refine ih (k + 1) _ _ _ (addL D jn f) 0 (us ||| 2 ^ jn) _ _ _ (by omega) (by show rdN (rdS tx0 o e k) (tx0 k) = _; rw [hr]; exact rdN_j (by omega) ej) (by have z := rd_ok hk.c hok hgd; rw [rdN_j (by omega) ej] at z; exact z) (fun q hq => ?_) hSq2 hM hF
                    by_cases z : q = k
                    · rw [z, hr]; exact hgd
                    · exact hgo q (by omega)
                · refine q_iload_n (pc' := 113) (dk_at dkX6_reads 63 rfl) rfl rfl ?_
                  refine r_iret rfl (dk_at dkX6_reads 64 rfl) ?_
                  exact ⟨Or.inl ⟨k, by omega, hgo, by rw [hr]; intro z; rcases ((rdG_j (by omega) ej).mp z).2.2 with z3 | z3; omega; exact c109 z3.2.symm, rfl⟩, sq1, op1, D, hM, (fun z => by omega), hok.1.1, hF⟩
      · refine q_iload_n (pc' := 35) (dk_at dkX6_reads 21 rfl) rfl rfl ?_
        refine q_if_eq (tgt := 40) (pc' := 38) (dk_at dkX6_reads 22 rfl) rfl rfl (by omega) (fun c35 => ?_) (fun c35 => ?_)
        · refine q_iconst (pc' := 41) (dk_at dkX6_reads 25 rfl) rfl ?_
          refine q_istore_n (pc' := 42) (L' := [some (vR m), some (vI (us : Int)), some (vI 1), some (vI (k : Int)), some (vI (tx0 k)), x5, x6]) (dk_at dkX6_reads 26 rfl) (by decide) rfl rfl ?_
          refine q_goto (tgt := 162) (dk_at dkX6_reads 27 rfl) rfl ?_
          refine q_iinc (pc' := 165) (L' := [some (vR m), some (vI (us : Int)), some (vI 1), some (vI ((k : Int) + 1)), some (vI (tx0 k)), x5, x6]) (dk_at dkX6_reads 95 rfl) (by decide) rfl rfl rfl ?_
          rw [show ((k : Int) + 1) = ((k + 1 : Nat) : Int) by omega]
          refine q_goto (tgt := 11) (dk_at dkX6_reads 96 rfl) rfl ?_
          refine ih (k + 1) _ _ _ D 1 us _ _ _ (by omega) (by show rdN (rdS tx0 o e k) (tx0 k) = _; rw [hr]; exact rdN_s (by omega)) (by have z := rd_ok hk.c hok ((rdG_s (c := tx0 k) (by omega)).mpr (by omega)); rw [rdN_s (by omega)] at z; exact z) (fun q hq => ?_) hSq hM hF
          by_cases z : q = k
          · rw [z, hr]; exact (rdG_s (by omega)).mpr (by omega)
          · exact hgo q (by omega)
        · refine q_iload_n (pc' := 39) (dk_at dkX6_reads 23 rfl) rfl rfl ?_
          refine r_iret rfl (dk_at dkX6_reads 24 rfl) ?_
          exact ⟨Or.inl ⟨k, by omega, hgo, by rw [hr]; exact fun z => by have := (rdG_s (by omega)).mp z; omega, rfl⟩, sq1, op1, D, hM, (fun z => by omega), hok.1.1, hF⟩

set_option maxHeartbeats 4000000 in
set_option maxRecDepth 100000 in
theorem k_M_reads {d n : Nat} {h : PH} {m : Nat} {A sd sq op ss es bo su se tx ba le fr un sF sR sT ad : Nat → Int} {sm th l0 bm nf ne nc : Int} {tn : Nat} {S : Shp} {tx0 o e : Nat → Int} (hd : 2 ≤ d) (hR : MR A S) (hk : Sok S) (htl : tn ≤ 60) (htx : ∀ i, 0 ≤ tx0 i ∧ tx0 i ≤ 127) (hTx : ∀ i, i < tn → tx i = tx0 i) (hO : ∀ j, 0 ≤ o j ∧ o j ≤ 7) (hM : isModel n h m A sd sm th sq op l0 ss es bo su se bm tx (tn : Int) ba le fr un nf ne nc sF sR sT ad) : CtrI mX6_reads d [vR m] n h (fun x h' => rdR S tx0 tn o e x ∧ ∃ sq1 op1 D, isModel n h' m A sd sm th sq1 op1 (D.sz : Int) ss es bo su se bm tx (tn : Int) ba le fr un nf ne nc sF sR sT ad ∧ (x = -1 → D = (rdS tx0 o e tn).1 ∧ PlOk S.cnt D ∧ SqP sq1 op1 D) ∧ D.sz ≤ 8 ∧ Fr h h' m (m + 19)) := by
  have hF : Fr h h m (m + 19) := Fr.rf
  refine q_beginI (L := [some (vR m), none, none, none, none, none, none]) rfl ?_
  refine q_aload_n (pc' := 1) (dk_at dkX6_reads 0 rfl) rfl rfl ?_
  refine q_iconst (pc' := 2) (dk_at dkX6_reads 1 rfl) rfl ?_
  refine r_putf (pc' := 5) fp_RX6_119 (dk_at dkX6_reads 2 rfl) hM.obj (Nat.le_of_ble_eq_true rfl) (PT_int _) rfl (fun hh1 ehh1 => ?_)
  have hM := hM.w_obj ehh1
  have hF := hF.put ehh1 (by omega)
  refine q_iconst (pc' := 6) (dk_at dkX6_reads 3 rfl) rfl ?_
  refine q_istore_n (pc' := 7) (L' := [some (vR m), some (vI 0), none, none, none, none, none]) (dk_at dkX6_reads 4 rfl) (by decide) rfl rfl ?_
  refine q_iconst (pc' := 8) (dk_at dkX6_reads 5 rfl) rfl ?_
  refine q_istore_n (pc' := 9) (L' := [some (vR m), some (vI 0), some (vI 1), none, none, none, none]) (dk_at dkX6_reads 6 rfl) (by decide) rfl rfl ?_
  refine q_iconst (pc' := 10) (dk_at dkX6_reads 7 rfl) rfl ?_
  refine q_istore_n (pc' := 11) (L' := [some (vR m), some (vI 0), some (vI 1), some (vI 0), none, none, none]) (dk_at dkX6_reads 8 rfl) (by decide) rfl rfl ?_
  refine l_reads (h := h) hd hR hk htl htx hTx tn 0 _ _ _ (0, 0, o, e) 1 0 none none none (by omega) rfl ?_ (fun q hq => absurd hq (Nat.not_lt_zero _)) ⟨fun q hq => absurd hq (Nat.not_lt_zero _), fun q hq => absurd hq (Nat.not_lt_zero _)⟩ hM hF
  exact ⟨⟨Nat.zero_le _, Nat.le_refl _, hO, fun b hb => absurd hb (Nat.not_lt_zero _), rfl, fun k hk => absurd hk (Nat.not_lt_zero _), fun k k' hk => absurd hk (Nat.not_lt_zero _)⟩, Or.inr rfl, rfl, fun z => by dsimp only at z; omega⟩

set_option maxHeartbeats 4000000 in
set_option maxRecDepth 100000 in
theorem k_M_parse {d n : Nat} {h : PH} {m : Nat} {S : Shp} {P : PlS} {kn bs : Int} {sv tl : Nat} {x : Nat → Snp} {tx : Nat → Int} {th : Int} {o e : Nat → Int} {v0 : Int} (hd : 30 ≤ d) (hI : MOI n h m th ((S, P, kn, bs), sv, x, tx, tl)) (hO : BOk ((S, P, kn, bs), sv, x, tx, tl)) (hO7 : ∀ j, 0 ≤ o j ∧ o j ≤ 7) (hrd0 : rdR S tx tl o e v0) : CtrI mX6_parse d [vR m] n h (fun v h' => (v0 ≠ -1 ∧ v = -10 - v0 ∧ MOI n h' m 0 ((S, P, kn, bs), sv, x, tx, tl) ∧ Fr h h' m (m + 19)) ∨ (v0 = -1 ∧ v = ((rdS tx o e tl).1.bc : Int) ∧ MOI n h' m 0 ((S, (rdS tx o e tl).1, kn, bs), pshN sv, (pshX sv x (S, P, kn, bs)), tx, tl) ∧ Fr h h' m (m + 19))) := by
  obtain ⟨A, sd, sq, op, ss, es, bo, su, se, tx1, ba, le, fr, un, sF, sR, sT, ad, l0, bm, nf, ne, nc, hM, ⟨hR, hP⟩, hSv, hTx, hL⟩ := hI
  have hM : isModel n h m A sd (sv : Int) th sq op l0 ss es bo su se bm tx1 (tl : Int) ba le fr un nf ne nc sF sR sT ad := hM
  have hR : MR A S := hR
  have hP : MP A P := hP
  have hSv : MSv sd sv x := hSv
  have hTx : ∀ i, i < tl → tx1 i = tx i := hTx
  obtain ⟨hko, hsv, hks, htl, htx⟩ := hO
  have hko : SnOk (S, P, kn, bs) := hko
  have hsv : sv ≤ 4 := hsv
  have hks : ∀ i, i < sv → SnOk (x i) := hks
  have htl : tl ≤ 60 := htl
  have htx : ∀ i, 0 ≤ tx i ∧ tx i ≤ 127 := htx
  have hk : Sok S := hko.1
  have hc8 := hk.c
  have hkp : Pok S.cnt P.od P.en P.bc P.sz := hko.2.1
  have hp8 : P.sz ≤ 8 := hkp.1
  have hpb : P.bc ≤ P.sz := hkp.2.1
  have hA0 := hR.c
  have hF : Fr h h m (m + 19) := Fr.rf
  refine q_beginI (L := [some (vR m), none, none]) rfl ?_
  refine q_aload_n (pc' := 1) (dk_at dkX6_parse 0 rfl) rfl rfl ?_
  refine q_iconst (pc' := 2) (dk_at dkX6_parse 1 rfl) rfl ?_
  refine r_putf (pc' := 5) fp_RX6_66 (dk_at dkX6_parse 2 rfl) hM.obj (Nat.le_of_ble_eq_true rfl) (PT_int _) rfl (fun hh1 ehh1 => ?_)
  have hM := hM.w_obj ehh1
  have hF := hF.put ehh1 (by omega)
  refine q_aload_n (pc' := 6) (dk_at dkX6_parse 3 rfl) rfl rfl ?_
  refine r_cVI (pc' := 9) (As := []) (S := []) cv_RX6_157 (dk_at dkX6_parse 4 rfl) hM.obj rfl (k_M_reads (d := 2) (o := o) (e := e) (by omega) hR hk htl htx hTx hO7 hM) (by omega) (Nat.zero_le _) (Nat.zero_le _) rfl (Nat.le_of_ble_eq_true rfl) rfl (Nat.le_of_ble_eq_true rfl) rfl (fun xx2 hh3 hphh3 => ?_)
  obtain ⟨hrd, sq1, op1, D, hM, hDD, hD8, hGf⟩ := hphh3
  have hF := hF.tr hGf (by omega)
  have hvr := rdR_r hrd htl
  have hv0 := rdR_one hrd hrd0
  refine q_istore_n (pc' := 10) (L' := [some (vR m), some (vI xx2), none]) (dk_at dkX6_parse 5 rfl) (by decide) rfl rfl ?_
  refine q_iload_n (pc' := 11) (dk_at dkX6_parse 6 rfl) rfl rfl ?_
  refine q_iconst (pc' := 12) (dk_at dkX6_parse 7 rfl) rfl ?_
  refine q_icmp_eq (tgt := 20) (pc' := 15) (dk_at dkX6_parse 8 rfl) rfl rfl (by omega) (by omega) (fun c12 => ?_) (fun c12 => ?_)
  · obtain ⟨hD1, hDp, hDS⟩ := hDD (by omega)
    refine q_aload_n (pc' := 21) (dk_at dkX6_parse 13 rfl) rfl rfl ?_
    refine r_cVV (pc' := 24) (As := []) (S := []) cv_RX6_95 (dk_at dkX6_parse 14 rfl) hM.obj rfl (k_M_save (d := 0) (c := (S, P, kn, bs)) hko hks hsv ⟨hR, hP⟩ hSv hM) (by omega) (Nat.zero_le _) (Nat.zero_le _) rfl (Nat.le_of_ble_eq_true rfl) rfl (Nat.le_of_ble_eq_true rfl) rfl (fun hh5 hphh5 => ?_)
    obtain ⟨sd2, hM, hSv, hGf⟩ := hphh5
    have hF := hF.tr hGf (by omega)
    refine q_aload_n (pc' := 25) (dk_at dkX6_parse 15 rfl) rfl rfl ?_
    refine r_cVV (pc' := 28) (As := []) (S := []) cv_RX6_160 (dk_at dkX6_parse 16 rfl) hM.obj rfl (k_M_keepsIt (d := 0) (P := D) hD8 hDS hM) (by omega) (Nat.zero_le _) (Nat.zero_le _) rfl (Nat.le_of_ble_eq_true rfl) rfl (Nat.le_of_ble_eq_true rfl) rfl (fun hh7 hphh7 => ?_)
    obtain ⟨A1, hM, hA1, hP1, hGf⟩ := hphh7
    have hF := hF.tr hGf (by omega)
    have hR1 := hR.cong hA1 hc8
    refine q_aload_n (pc' := 29) (dk_at dkX6_parse 17 rfl) rfl rfl ?_
    refine r_cVI (pc' := 32) (As := []) (S := []) cv_RX6_163 (dk_at dkX6_parse 18 rfl) hM.obj rfl (k_M_runs (d := 3) (P := D) (by omega) hR1 hk hDp hDS hM) (by omega) (Nat.zero_le _) (Nat.zero_le _) rfl (Nat.le_of_ble_eq_true rfl) rfl (Nat.le_of_ble_eq_true rfl) rfl (fun xx8 hh9 hphh9 => ?_)
    obtain ⟨hx, ss1, es1, bo1, su1, se1, hM, hT, hGf⟩ := hphh9
    have hF := hF.tr hGf (by omega)
    refine q_istore_n (pc' := 33) (L' := [some (vR m), some (vI xx2), some (vI xx8)]) (dk_at dkX6_parse 19 rfl) (by decide) rfl rfl ?_
    refine q_aload_n (pc' := 34) (dk_at dkX6_parse 20 rfl) rfl rfl ?_
    refine r_getf (pc' := 37) fl_RX6_126 (dk_at dkX6_parse 21 rfl) hM.obj rfl rfl ?_
    refine r_iret rfl (dk_at dkX6_parse 22 rfl) ?_
    refine Or.inr ⟨by omega, by rw [hD1], ?_, hF⟩
    exact ⟨_, _, _, _, _, _, _, _, _, _, _, _, _, _, _, _, _, _, _, _, _, _, _, hM, ⟨hR1, by rw [← hD1]; exact hP1⟩, hSv, hTx, hL⟩
  · refine q_bipush (pc' := 17) (dk_at dkX6_parse 9 rfl) (by decide +kernel) rfl ?_
    refine q_iload_n (pc' := 18) (dk_at dkX6_parse 10 rfl) rfl rfl ?_
    refine q_isub (pc' := 19) (dk_at dkX6_parse 11 rfl) rfl ?_
    refine r_iret rfl (dk_at dkX6_parse 12 rfl) ?_
    exact Or.inl ⟨by omega, by omega, ⟨_, _, _, _, _, _, _, _, _, _, _, _, _, _, _, _, _, _, _, _, _, _, _, hM, ⟨hR, hP⟩, hSv, hTx, hL⟩, hF⟩
