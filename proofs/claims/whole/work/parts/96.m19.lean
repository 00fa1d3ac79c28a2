/-! BatchMachineModel: digest -/
theorem mxW_s {f : Nat → Int} {z : Int} {k : Nat} : mxW f z (k + 1) = 31 * mxW f z k + f k := rfl
theorem mxW_add {f : Nat → Int} {z : Int} {n : Nat} : ∀ k, mxW f z (n + k) = mxW (fun w => f (n + w)) (mxW f z n) k
  | 0 => rfl
  | k + 1 => by rw [show n + (k + 1) = n + k + 1 by omega, mxW_s, mxW_s, mxW_add k]
theorem mxW_cg {f g : Nat → Int} {z : Int} : ∀ n, (∀ k, k < n → f k = g k) → mxW f z n = mxW g z n
  | 0, _ => rfl
  | n + 1, h => by rw [mxW_s, mxW_s, mxW_cg n (fun k hk => h k (by omega)), h n (by omega)]
theorem mxO_s {g : Nat → Nat → Int} {N : Nat} {z : Int} {j : Nat} : mxO g N z (j + 1) = mxW (g j) (mxO g N z j) N := rfl
theorem dg_jobs {A : Nat → Int} {S : Shp} (h : MR A S) {z : Int} : ∀ c, c ≤ S.cnt → mxW (fun k => A (0 + k)) z (1 + 5 * c) = mxO (fun j w => S.V w j) 5 (31 * z + S.cnt) c
  | 0, _ => by
    show 31 * z + A (0 + 0) = 31 * z + S.cnt
    rw [show 0 + 0 = 0 from rfl, h.c]
  | c + 1, hc => by
    rw [show 1 + 5 * (c + 1) = (1 + 5 * c) + 5 by omega, mxW_add, dg_jobs h c (by omega), mxO_s]
    refine mxW_cg 5 (fun k hk => ?_)
    have := h.v (w := k) (j := c) hk (by omega)
    rw [show 0 + (1 + 5 * c + k) = 1 + 5 * c + k by omega]
    exact this
theorem dg_set {A : Nat → Int} {S : Shp} (h : MR A S) {z : Int} : ∀ r, r ≤ 5 → mxW (fun k => A (41 + k)) z (4 * r) = mxO (fun r t => S.T r t) 4 z r
  | 0, _ => rfl
  | r + 1, hr => by
    rw [show 4 * (r + 1) = 4 * r + 4 by omega, mxW_add, dg_set h r (by omega), mxO_s]
    refine mxW_cg 4 (fun k hk => ?_)
    by_cases z : r = 0
    · rw [z, show 41 + (4 * 0 + k) = 41 + k by omega]; exact h.t0 hk
    · have := h.t (f := r - 1) (t := k) (by omega) hk
      rw [show 45 + 4 * (r - 1) + k = 41 + (4 * r + k) by omega, show r - 1 + 1 = r by omega] at this
      exact this
theorem dg_all {A : Nat → Int} {S : Shp} (h : MR A S) {z : Int} : mxW (fun k => A (41 + k)) (mxW (fun k => A (0 + k)) z (1 + 5 * S.cnt)) 23 = mixS S z := by
  rw [dg_jobs h S.cnt (Nat.le_refl _)]
  show 31 * (31 * (31 * mxW (fun k => A (41 + k)) _ (4 * 5) + A 61) + A 62) + A 63 = _
  rw [dg_set h 5 (Nat.le_refl _), h.w, h.e, h.o]
  rfl
theorem MR.rg {A : Nat → Int} {S : Shp} (h : MR A S) (hk : Sok S) : (∀ k, k < 1 + 5 * S.cnt → 0 ≤ A (0 + k) ∧ A (0 + k) ≤ 500) ∧ ∀ k, k < 23 → 0 ≤ A (41 + k) ∧ A (41 + k) ≤ 500 := by
  have hc := hk.c
  refine ⟨fun k hk1 => ?_, fun k hk1 => ?_⟩
  · by_cases z : k = 0
    · rw [z, show 0 + 0 = 0 from rfl, h.c]; omega
    · have := h.v (w := (k - 1) % 5) (j := (k - 1) / 5) (by omega) (by omega)
      rw [show 0 + k = 1 + 5 * ((k - 1) / 5) + (k - 1) % 5 by omega, this]
      have := hk.v ((k - 1) % 5) ((k - 1) / 5)
      exact ⟨this.1, this.2.1⟩
  · have hT := hk.t
    have hw := hk.w
    have he := hk.e
    have ho := hk.o
    by_cases z : k < 4
    · have := hT 0 k
      rw [h.t0 z]; omega
    · by_cases y : k < 20
      · have e := h.t (f := (k - 4) / 4) (t := (k - 4) % 4) (by omega) (by omega)
        have := hT ((k - 4) / 4 + 1) ((k - 4) % 4)
        rw [show 41 + k = 45 + 4 * ((k - 4) / 4) + (k - 4) % 4 by omega, e]; omega
      · rcases (show k = 20 ∨ k = 21 ∨ k = 22 by omega) with q | q | q
        · rw [q, show 41 + 20 = 61 from rfl, h.w]; omega
        · rw [q, show 41 + 21 = 62 from rfl, h.e]; omega
        · rw [q, show 41 + 22 = 63 from rfl, h.o]; omega
set_option maxHeartbeats 4000000 in
set_option maxRecDepth 100000 in
theorem l_msum {d n : Nat} {h : PH} {m : Nat} {A sd sq op ss es bo su se tx ba le fr un sF sR sT ad : Nat → Int} {sm th l0 bm tl nf ne nc : Int} {fs mn : Nat} {z0 : Int} (hfm : fs + mn ≤ 81) (hr : ∀ k, k < mn → 0 ≤ A (fs + k) ∧ A (fs + k) ≤ 500) (hM : isModel n h m A sd sm th sq op l0 ss es bo su se bm tx tl ba le fr un nf ne nc sF sR sT ad) : ∀ (c : Nat) (k : Nat) (z : Int), (k + c = mn) → (z = mxW (fun k => A (fs + k)) z0 k) → QN mX6_sums d (FJ n (fun x h' => h' = h ∧ x = mxW (fun k => A (fs + k)) z0 mn)) 6 [some (vR m), some (vJ z0), none, some (vI (fs : Int)), some (vI (mn : Int)), some (vJ z), none, some (vI (k : Int))] [] n h := by
  intro c
  induction c with
  | zero =>
    intro k z hc hz
    refine q_iload (pc' := 8) (dk_at dkX6_sums 4 rfl) rfl rfl ?_
    refine q_iload (pc' := 10) (dk_at dkX6_sums 5 rfl) rfl rfl ?_
    refine q_icmp_ge (tgt := 38) (pc' := 13) (dk_at dkX6_sums 6 rfl) rfl rfl (by omega) (by omega) (fun c10 => ?_) (fun c10 => ?_)
    · refine q_lload (pc' := 40) (dk_at dkX6_sums 21 rfl) rfl rfl ?_
      refine r_lret rfl (dk_at dkX6_sums 22 rfl) ?_
      exact ⟨rfl, by rw [hz, show k = mn by omega]⟩
    · exfalso
      omega
  | succ c ih =>
    intro k z hc hz
    refine q_iload (pc' := 8) (dk_at dkX6_sums 4 rfl) rfl rfl ?_
    refine q_iload (pc' := 10) (dk_at dkX6_sums 5 rfl) rfl rfl ?_
    refine q_icmp_ge (tgt := 38) (pc' := 13) (dk_at dkX6_sums 6 rfl) rfl rfl (by omega) (by omega) (fun c10 => ?_) (fun c10 => ?_)
    · refine q_lload (pc' := 40) (dk_at dkX6_sums 21 rfl) rfl rfl ?_
      refine r_lret rfl (dk_at dkX6_sums 22 rfl) ?_
      exact ⟨rfl, by rw [hz, show k = mn by omega]⟩
    · refine q_ldc2 (pc' := 16) (z := 31) kc_RX6_257 (by decide +kernel) (dk_at dkX6_sums 7 rfl) rfl ?_
      refine q_lload (pc' := 18) (dk_at dkX6_sums 8 rfl) rfl rfl ?_
      refine q_lmul (pc' := 19) (dk_at dkX6_sums 9 rfl) rfl ?_
      refine q_aload_n (pc' := 20) (dk_at dkX6_sums 10 rfl) rfl rfl ?_
      refine r_getf (pc' := 23) fl_RX6_7 (dk_at dkX6_sums 11 rfl) hM.obj rfl rfl ?_
      refine q_iload_n (pc' := 24) (dk_at dkX6_sums 12 rfl) rfl rfl ?_
      refine q_iload (pc' := 26) (dk_at dkX6_sums 13 rfl) rfl rfl ?_
      refine q_iadd (pc' := 27) (dk_at dkX6_sums 14 rfl) rfl ?_
      refine r_iald (pc' := 28) (dk_at dkX6_sums 15 rfl) hM.all (fs + k) (by omega) (by omega) (by decide) rfl ?_
      have hrk := hr k (by omega)
      refine q_i2l (pc' := 29) (dk_at dkX6_sums 16 rfl) (by omega) rfl ?_
      refine q_ladd (pc' := 30) (dk_at dkX6_sums 17 rfl) rfl ?_
      refine q_lstore (pc' := 32) (L' := [some (vR m), some (vJ z0), none, some (vI (fs : Int)), some (vI (mn : Int)), some (vJ ((31 * z) + (A (fs + k)))), none, some (vI (k : Int))]) (dk_at dkX6_sums 18 rfl) (by decide) rfl rfl ?_
      refine q_iinc (pc' := 35) (L' := [some (vR m), some (vJ z0), none, some (vI (fs : Int)), some (vI (mn : Int)), some (vJ ((31 * z) + (A (fs + k)))), none, some (vI ((k : Int) + 1))]) (dk_at dkX6_sums 19 rfl) (by decide) rfl rfl rfl ?_
      rw [show ((k : Int) + 1) = ((k + 1 : Nat) : Int) by omega]
      refine q_goto (tgt := 6) (dk_at dkX6_sums 20 rfl) rfl ?_
      exact ih (k + 1) _ (by omega) (by rw [mxW_s, ← hz])

set_option maxHeartbeats 4000000 in
set_option maxRecDepth 100000 in
theorem k_M_sums {d n : Nat} {h : PH} {m : Nat} {A sd sq op ss es bo su se tx ba le fr un sF sR sT ad : Nat → Int} {sm th l0 bm tl nf ne nc : Int} {fs mn : Nat} {z0 : Int} (hfm : fs + mn ≤ 81) (hr : ∀ k, k < mn → 0 ≤ A (fs + k) ∧ A (fs + k) ≤ 500) (hM : isModel n h m A sd sm th sq op l0 ss es bo su se bm tx tl ba le fr un nf ne nc sF sR sT ad) : CtrJ mX6_sums d [vR m, vJ z0, vI (fs : Int), vI (mn : Int)] n h (fun x h' => h' = h ∧ x = mxW (fun k => A (fs + k)) z0 mn) := by
  refine q_beginJ (L := [some (vR m), some (vJ z0), none, some (vI (fs : Int)), some (vI (mn : Int)), none, none, none]) rfl ?_
  refine q_lload_n (pc' := 1) (dk_at dkX6_sums 0 rfl) rfl rfl ?_
  refine q_lstore (pc' := 3) (L' := [some (vR m), some (vJ z0), none, some (vI (fs : Int)), some (vI (mn : Int)), some (vJ z0), none, none]) (dk_at dkX6_sums 1 rfl) (by decide) rfl rfl ?_
  refine q_iconst (pc' := 4) (dk_at dkX6_sums 2 rfl) rfl ?_
  refine q_istore (pc' := 6) (L' := [some (vR m), some (vJ z0), none, some (vI (fs : Int)), some (vI (mn : Int)), some (vJ z0), none, some (vI 0)]) (dk_at dkX6_sums 3 rfl) (by decide) rfl rfl ?_
  exact l_msum hfm hr hM mn 0 _ (by omega) rfl

set_option maxHeartbeats 4000000 in
set_option maxRecDepth 100000 in
theorem l_md1 {d n : Nat} {F : FT} {h : PH} {m : Nat} {S : Shp} {P : PlS} {co : Int} {A sd sq op ss es bo su se tx ba le fr un sF sR sT ad : Nat → Int} {sm th tl nf ne nc : Int} (hd : 20 ≤ d) (hR : MR A S) (hk : Sok S) (hkp : Pok S.cnt P.od P.en P.bc P.sz) (hS : SqP sq op P) (hT : TmM S P P.bc ss es bo su se) (hM : isModel n h m A sd sm th sq op (P.sz : Int) ss es bo su se (P.bc : Int) tx tl ba le fr un nf ne nc sF sR sT ad) {bi : Nat} (hbi : bi < P.bc) (hp8 : P.bc ≤ 8) {y : Int} (hex : ∀ (z : Int) (v : Int), z = mxW (fun w => bvS S P w bi) y 6 → QN mX6_digest d F 101 [some (vR m), some (vJ z), none, some (vI co), some (vI (bi : Int)), some (vI v)] [] n h) : ∀ (c : Nat) (wh : Nat) (z : Int), (wh + c = 6) → (z = mxW (fun w => bvS S P w bi) y wh) → QN mX6_digest d F 72 [some (vR m), some (vJ z), none, some (vI co), some (vI (bi : Int)), some (vI (wh : Int))] [] n h := by
  intro c
  induction c with
  | zero =>
    intro wh z hc hz
    refine q_iload (pc' := 74) (dk_at dkX6_digest 45 rfl) rfl rfl ?_
    refine q_bipush (pc' := 76) (dk_at dkX6_digest 46 rfl) (by decide +kernel) rfl ?_
    refine q_icmp_ge (tgt := 101) (pc' := 79) (dk_at dkX6_digest 47 rfl) rfl rfl (by omega) (by omega) (fun c76 => ?_) (fun c76 => ?_)
    · first | (exfalso; omega; done) | exact hex z _ (by rw [hz, show wh = 6 by omega])
    · exfalso
      omega
  | succ c ih =>
    intro wh z hc hz
    refine q_iload (pc' := 74) (dk_at dkX6_digest 45 rfl) rfl rfl ?_
    refine q_bipush (pc' := 76) (dk_at dkX6_digest 46 rfl) (by decide +kernel) rfl ?_
    refine q_icmp_ge (tgt := 101) (pc' := 79) (dk_at dkX6_digest 47 rfl) rfl rfl (by omega) (by omega) (fun c76 => ?_) (fun c76 => ?_)
    · first | (exfalso; omega; done) | exact hex z _ (by rw [hz, show wh = 6 by omega])
    · refine q_ldc2 (pc' := 82) (z := 31) kc_RX6_257 (by decide +kernel) (dk_at dkX6_digest 48 rfl) rfl ?_
      refine q_lload_n (pc' := 83) (dk_at dkX6_digest 49 rfl) rfl rfl ?_
      refine q_lmul (pc' := 84) (dk_at dkX6_digest 50 rfl) rfl ?_
      refine q_aload_n (pc' := 85) (dk_at dkX6_digest 51 rfl) rfl rfl ?_
      refine q_iload (pc' := 87) (dk_at dkX6_digest 52 rfl) rfl rfl ?_
      refine q_iload (pc' := 89) (dk_at dkX6_digest 53 rfl) rfl rfl ?_
      refine r_cVI (pc' := 92) (As := [vI (bi : Int), vI (wh : Int)]) (S := [vJ (31 * z)]) cv_RX6_195 (dk_at dkX6_digest 54 rfl) hM.obj rfl (k_M_batchValue (d := 8) (b := bi) (w := wh) (by omega) hR hk hkp hS hT (by omega) rfl (by omega) hM) (by omega) (Nat.zero_le _) (Nat.zero_le _) rfl (Nat.le_of_ble_eq_true rfl) rfl (Nat.le_of_ble_eq_true rfl) rfl (fun xx1 hh2 hphh2 => ?_)
      obtain ⟨qq3, rfl⟩ := hphh2
      rw [qq3]
      have hbr := bvS_r hk hkp (w := wh) (i := bi) (by omega)
      refine q_i2l (pc' := 93) (dk_at dkX6_digest 55 rfl) (by omega) rfl ?_
      refine q_ladd (pc' := 94) (dk_at dkX6_digest 56 rfl) rfl ?_
      refine q_lstore_n (pc' := 95) (L' := [some (vR m), some (vJ ((31 * z) + (bvS S P wh bi))), none, some (vI co), some (vI (bi : Int)), some (vI (wh : Int))]) (dk_at dkX6_digest 57 rfl) (by decide) rfl rfl ?_
      refine q_iinc (pc' := 98) (L' := [some (vR m), some (vJ ((31 * z) + (bvS S P wh bi))), none, some (vI co), some (vI (bi : Int)), some (vI ((wh : Int) + 1))]) (dk_at dkX6_digest 58 rfl) (by decide) rfl rfl rfl ?_
      rw [show ((wh : Int) + 1) = ((wh + 1 : Nat) : Int) by omega]
      refine q_goto (tgt := 72) (dk_at dkX6_digest 59 rfl) rfl ?_
      exact ih (wh + 1) _ (by omega) (by rw [mxW_s, ← hz])

set_option maxHeartbeats 4000000 in
set_option maxRecDepth 100000 in
theorem l_md2 {d n : Nat} {F : FT} {h : PH} {m : Nat} {S : Shp} {P : PlS} {co : Int} {A sd sq op ss es bo su se tx ba le fr un sF sR sT ad : Nat → Int} {sm th tl nf ne nc : Int} (hd : 20 ≤ d) (hR : MR A S) (hk : Sok S) (hkp : Pok S.cnt P.od P.en P.bc P.sz) (hS : SqP sq op P) (hT : TmM S P P.bc ss es bo su se) (hM : isModel n h m A sd sm th sq op (P.sz : Int) ss es bo su se (P.bc : Int) tx tl ba le fr un nf ne nc sF sR sT ad) {bi : Nat} (hbi : bi < P.bc) (hp8 : P.bc ≤ 8) {y : Int} (hnx : bgn P.en bi < bgn P.en (bi + 1) ∧ bgn P.en (bi + 1) ≤ P.sz ∧ P.sz ≤ 8 ∧ ((bgn P.en (bi + 1) : Nat) : Int) = P.en bi) (hex : ∀ (z : Int) (v : Int), z = mxW (fun k => P.od (bgn P.en bi + k)) y (bgn P.en (bi + 1) - bgn P.en bi) → QN mX6_digest d F 144 [some (vR m), some (vJ z), none, some (vI co), some (vI (bi : Int)), some (vI v)] [] n h) : ∀ (c : Nat) (k : Nat) (z : Int), (bgn P.en bi + k + c = bgn P.en (bi + 1)) → (z = mxW (fun k => P.od (bgn P.en bi + k)) y k) → QN mX6_digest d F 104 [some (vR m), some (vJ z), none, some (vI co), some (vI (bi : Int)), some (vI (k : Int))] [] n h := by
  intro c
  induction c with
  | zero =>
    intro k z hc hz
    refine q_iload (pc' := 106) (dk_at dkX6_digest 62 rfl) rfl rfl ?_
    refine q_aload_n (pc' := 107) (dk_at dkX6_digest 63 rfl) rfl rfl ?_
    refine q_iload (pc' := 109) (dk_at dkX6_digest 64 rfl) rfl rfl ?_
    refine q_iconst (pc' := 110) (dk_at dkX6_digest 65 rfl) rfl ?_
    refine r_cVI (pc' := 113) (As := [vI (bi : Int), vI 1]) (S := [vI (k : Int)]) cv_RX6_195 (dk_at dkX6_digest 66 rfl) hM.obj rfl (k_M_batchValue (d := 8) (b := bi) (w := 1) (by omega) hR hk hkp hS hT (by omega) rfl (by omega) hM) (by omega) (Nat.zero_le _) (Nat.zero_le _) rfl (Nat.le_of_ble_eq_true rfl) rfl (Nat.le_of_ble_eq_true rfl) rfl (fun xx1 hh2 hphh2 => ?_)
    obtain ⟨qq3, yb1⟩ := hphh2
    rw [qq3]
    have yb1 : xx1 = P.en bi - ((bgn P.en bi : Nat) : Int) := yb1
    refine q_icmp_ge (tgt := 144) (pc' := 116) (dk_at dkX6_digest 67 rfl) rfl rfl (by omega) (by omega) (fun c113 => ?_) (fun c113 => ?_)
    · first | (exfalso; omega; done) | exact hex z _ (by rw [hz, show k = bgn P.en (bi + 1) - bgn P.en bi by omega])
    · exfalso
      omega
  | succ c ih =>
    intro k z hc hz
    refine q_iload (pc' := 106) (dk_at dkX6_digest 62 rfl) rfl rfl ?_
    refine q_aload_n (pc' := 107) (dk_at dkX6_digest 63 rfl) rfl rfl ?_
    refine q_iload (pc' := 109) (dk_at dkX6_digest 64 rfl) rfl rfl ?_
    refine q_iconst (pc' := 110) (dk_at dkX6_digest 65 rfl) rfl ?_
    refine r_cVI (pc' := 113) (As := [vI (bi : Int), vI 1]) (S := [vI (k : Int)]) cv_RX6_195 (dk_at dkX6_digest 66 rfl) hM.obj rfl (k_M_batchValue (d := 8) (b := bi) (w := 1) (by omega) hR hk hkp hS hT (by omega) rfl (by omega) hM) (by omega) (Nat.zero_le _) (Nat.zero_le _) rfl (Nat.le_of_ble_eq_true rfl) rfl (Nat.le_of_ble_eq_true rfl) rfl (fun xx1 hh2 hphh2 => ?_)
    obtain ⟨qq3, yb1⟩ := hphh2
    rw [qq3]
    have yb1 : xx1 = P.en bi - ((bgn P.en bi : Nat) : Int) := yb1
    refine q_icmp_ge (tgt := 144) (pc' := 116) (dk_at dkX6_digest 67 rfl) rfl rfl (by omega) (by omega) (fun c113 => ?_) (fun c113 => ?_)
    · first | (exfalso; omega; done) | exact hex z _ (by rw [hz, show k = bgn P.en (bi + 1) - bgn P.en bi by omega])
    · refine q_ldc2 (pc' := 119) (z := 31) kc_RX6_257 (by decide +kernel) (dk_at dkX6_digest 68 rfl) rfl ?_
      refine q_lload_n (pc' := 120) (dk_at dkX6_digest 69 rfl) rfl rfl ?_
      refine q_lmul (pc' := 121) (dk_at dkX6_digest 70 rfl) rfl ?_
      refine q_aload_n (pc' := 122) (dk_at dkX6_digest 71 rfl) rfl rfl ?_
      refine r_getf (pc' := 125) fl_RX6_16 (dk_at dkX6_digest 72 rfl) hM.obj rfl rfl ?_
      refine q_aload_n (pc' := 126) (dk_at dkX6_digest 73 rfl) rfl rfl ?_
      refine q_iload (pc' := 128) (dk_at dkX6_digest 74 rfl) rfl rfl ?_
      refine r_cVI (pc' := 131) (As := [vI (bi : Int)]) (S := [vR (m + 3), vJ (31 * z)]) cv_RX6_192 (dk_at dkX6_digest 75 rfl) hM.obj rfl (k_M_firstOf (d := 8) (b := bi) hkp hT (by omega) hM) (by omega) (Nat.zero_le _) (Nat.zero_le _) rfl (Nat.le_of_ble_eq_true rfl) rfl (Nat.le_of_ble_eq_true rfl) rfl (fun xx4 hh5 hphh5 => ?_)
      obtain ⟨qq6, rfl⟩ := hphh5
      rw [qq6]
      refine q_iload (pc' := 133) (dk_at dkX6_digest 76 rfl) rfl rfl ?_
      refine q_iadd (pc' := 134) (dk_at dkX6_digest 77 rfl) rfl ?_
      refine r_iald (pc' := 135) (dk_at dkX6_digest 78 rfl) hM.sequence (bgn P.en bi + k) (by omega) (by omega) (by decide) rfl ?_
      have hod := hkp.2.2.1 (bgn P.en bi + k)
      rw [show (sq (bgn P.en bi + k)) = P.od (bgn P.en bi + k) from hS.1 _ (by omega)]
      refine q_i2l (pc' := 136) (dk_at dkX6_digest 79 rfl) (by omega) rfl ?_
      refine q_ladd (pc' := 137) (dk_at dkX6_digest 80 rfl) rfl ?_
      refine q_lstore_n (pc' := 138) (L' := [some (vR m), some (vJ ((31 * z) + (P.od (bgn P.en bi + k)))), none, some (vI co), some (vI (bi : Int)), some (vI (k : Int))]) (dk_at dkX6_digest 81 rfl) (by decide) rfl rfl ?_
      refine q_iinc (pc' := 141) (L' := [some (vR m), some (vJ ((31 * z) + (P.od (bgn P.en bi + k)))), none, some (vI co), some (vI (bi : Int)), some (vI ((k : Int) + 1))]) (dk_at dkX6_digest 82 rfl) (by decide) rfl rfl rfl ?_
      rw [show ((k : Int) + 1) = ((k + 1 : Nat) : Int) by omega]
      refine q_goto (tgt := 104) (dk_at dkX6_digest 83 rfl) rfl ?_
      exact ih (k + 1) _ (by omega) (by rw [mxW_s, ← hz])

set_option maxHeartbeats 4000000 in
set_option maxRecDepth 100000 in
theorem l_md3 {d n : Nat} {F : FT} {h : PH} {m : Nat} {S : Shp} {P : PlS} {co : Int} {A sd sq op ss es bo su se tx ba le fr un sF sR sT ad : Nat → Int} {sm th tl nf ne nc : Int} (hd : 20 ≤ d) (hR : MR A S) (hk : Sok S) (hkp : Pok S.cnt P.od P.en P.bc P.sz) (hS : SqP sq op P) (hT : TmM S P P.bc ss es bo su se) (hM : isModel n h m A sd sm th sq op (P.sz : Int) ss es bo su se (P.bc : Int) tx tl ba le fr un nf ne nc sF sR sT ad) (hp8 : P.bc ≤ 8) {y : Int} (hex : ∀ (z : Int) (v : Int) (x5 : Option PV), z = dgB S P y P.bc → QN mX6_digest d F 150 [some (vR m), some (vJ z), none, some (vI co), some (vI v), x5] [] n h) : ∀ (c : Nat) (bi : Nat) (z : Int) (x5 : Option PV), (bi + c = P.bc) → (z = dgB S P y bi) → QN mX6_digest d F 60 [some (vR m), some (vJ z), none, some (vI co), some (vI (bi : Int)), x5] [] n h := by
  intro c
  induction c with
  | zero =>
    intro bi z x5 hc hz
    refine q_iload (pc' := 62) (dk_at dkX6_digest 39 rfl) rfl rfl ?_
    refine q_aload_n (pc' := 63) (dk_at dkX6_digest 40 rfl) rfl rfl ?_
    refine r_getf (pc' := 66) fl_RX6_126 (dk_at dkX6_digest 41 rfl) hM.obj rfl rfl ?_
    refine q_icmp_ge (tgt := 150) (pc' := 69) (dk_at dkX6_digest 42 rfl) rfl rfl (by omega) (by omega) (fun c66 => ?_) (fun c66 => ?_)
    · first | (exfalso; omega; done) | exact hex z _ _ (by rw [hz, show bi = P.bc by omega])
    · exfalso
      omega
  | succ c ih =>
    intro bi z x5 hc hz
    refine q_iload (pc' := 62) (dk_at dkX6_digest 39 rfl) rfl rfl ?_
    refine q_aload_n (pc' := 63) (dk_at dkX6_digest 40 rfl) rfl rfl ?_
    refine r_getf (pc' := 66) fl_RX6_126 (dk_at dkX6_digest 41 rfl) hM.obj rfl rfl ?_
    refine q_icmp_ge (tgt := 150) (pc' := 69) (dk_at dkX6_digest 42 rfl) rfl rfl (by omega) (by omega) (fun c66 => ?_) (fun c66 => ?_)
    · first | (exfalso; omega; done) | exact hex z _ _ (by rw [hz, show bi = P.bc by omega])
    · refine q_iconst (pc' := 70) (dk_at dkX6_digest 43 rfl) rfl ?_
      refine q_istore (pc' := 72) (L' := [some (vR m), some (vJ z), none, some (vI co), some (vI (bi : Int)), some (vI 0)]) (dk_at dkX6_digest 44 rfl) (by decide) rfl rfl ?_
      refine l_md1 hd hR hk hkp hS hT hM (bi := bi) (by omega) hp8 (y := z) ?_ 6 0 z (by omega) rfl
      intro z1 v1 hz1
      refine q_iconst (pc' := 102) (dk_at dkX6_digest 60 rfl) rfl ?_
      refine q_istore (pc' := 104) (L' := [some (vR m), some (vJ z1), none, some (vI co), some (vI (bi : Int)), some (vI 0)]) (dk_at dkX6_digest 61 rfl) (by decide) rfl rfl ?_
      have hnx := hkp.nx (b := bi) (by omega)
      refine l_md2 hd hR hk hkp hS hT hM (bi := bi) (by omega) hp8 (y := z1) ⟨hnx.1, hnx.2.1, hkp.1, hnx.2.2⟩ ?_ (bgn P.en (bi + 1) - bgn P.en bi) 0 z1 (by omega) rfl
      intro z2 v2 hz2
      refine q_iinc (pc' := 147) (L' := [some (vR m), some (vJ z2), none, some (vI co), some (vI ((bi : Int) + 1)), some (vI v2)]) (dk_at dkX6_digest 84 rfl) (by decide) rfl rfl rfl ?_
      rw [show ((bi : Int) + 1) = ((bi + 1 : Nat) : Int) by omega]
      refine q_goto (tgt := 60) (dk_at dkX6_digest 85 rfl) rfl ?_
      exact ih (bi + 1) _ _ (by omega) (by show _ = mxW _ (mxW _ (dgB S P y bi) 6) _; rw [hz2, hz1, hz])

set_option maxHeartbeats 4000000 in
set_option maxRecDepth 100000 in
theorem k_M_digest {d n : Nat} {h : PH} {m : Nat} {S : Shp} {P : PlS} {kn bs : Int} {sv tl : Nat} {x : Nat → Snp} {tx : Nat → Int} {th : Int}  (hd : 30 ≤ d) (hI : MOI n h m th ((S, P, kn, bs), sv, x, tx, tl)) (hO : BOk ((S, P, kn, bs), sv, x, tx, tl))  : CtrJ mX6_digest d [vR m] n h (fun v h' => v = dgS S P (tl : Int) (sv : Int) ∧ MOI n h' m 0 ((S, P, kn, bs), sv, x, tx, tl) ∧ Fr h h' m (m + 19)) := by
  obtain ⟨A, sd, sq, op, ss, es, bo, su, se, tx1, ba, le, fr, un, sF, sR, sT, ad, l0, bm, nf, ne, nc, hM, ⟨hR, hP⟩, hSv, hTx, hL⟩ := hI
  have hM : isModel n h m A sd (sv : Int) th sq op l0 ss es bo su se bm tx1 (tl : Int) ba le fr un nf ne nc sF sR sT ad := hM
  have hR : MR A S := hR
  have hP : MP A P := hP
  have hSv : MSv sd sv x := hSv
  have hTx : ∀ i, i < tl → tx1 i = tx i := hTx
  obtain ⟨hko, hsv, hks, htl, htx⟩ := hO
  have hko : SnOk (S, P, kn, bs) := hko
  have hsv : sv ≤ 4 := hsv
  have hks : ∀ i, i < sv → SnOk (x i) := hks
  have htl : tl ≤ 60 := htl
  have htx : ∀ i, 0 ≤ tx i ∧ tx i ≤ 127 := htx
  have hk : Sok S := hko.1
  have hc8 := hk.c
  have hkp : Pok S.cnt P.od P.en P.bc P.sz := hko.2.1
  have hp8 : P.sz ≤ 8 := hkp.1
  have hpb : P.bc ≤ P.sz := hkp.2.1
  have hA0 := hR.c
  have hF : Fr h h m (m + 19) := Fr.rf
  refine q_beginJ (L := [some (vR m), none, none, none, none, none]) rfl ?_
  refine q_aload_n (pc' := 1) (dk_at dkX6_digest 0 rfl) rfl rfl ?_
  refine q_iconst (pc' := 2) (dk_at dkX6_digest 1 rfl) rfl ?_
  refine r_putf (pc' := 5) fp_RX6_66 (dk_at dkX6_digest 2 rfl) hM.obj (Nat.le_of_ble_eq_true rfl) (PT_int _) rfl (fun hh1 ehh1 => ?_)
  have hM := hM.w_obj ehh1
  have hF := hF.put ehh1 (by omega)
  refine q_aload_n (pc' := 6) (dk_at dkX6_digest 3 rfl) rfl rfl ?_
  refine q_ldc2 (pc' := 9) (z := 89497) kc_RX6_259 (by decide +kernel) (dk_at dkX6_digest 4 rfl) rfl ?_
  refine q_aload_n (pc' := 10) (dk_at dkX6_digest 5 rfl) rfl rfl ?_
  refine r_getf (pc' := 13) fl_RX6_151 (dk_at dkX6_digest 6 rfl) hM.obj rfl rfl ?_
  refine q_i2l (pc' := 14) (dk_at dkX6_digest 7 rfl) (by omega) rfl ?_
  refine q_ladd (pc' := 15) (dk_at dkX6_digest 8 rfl) rfl ?_
  refine q_iconst (pc' := 16) (dk_at dkX6_digest 9 rfl) rfl ?_
  refine q_iconst (pc' := 17) (dk_at dkX6_digest 10 rfl) rfl ?_
  refine q_iconst (pc' := 18) (dk_at dkX6_digest 11 rfl) rfl ?_
  refine q_aload_n (pc' := 19) (dk_at dkX6_digest 12 rfl) rfl rfl ?_
  refine r_getf (pc' := 22) fl_RX6_7 (dk_at dkX6_digest 13 rfl) hM.obj rfl rfl ?_
  refine q_iconst (pc' := 23) (dk_at dkX6_digest 14 rfl) rfl ?_
  refine r_iald (pc' := 24) (dk_at dkX6_digest 15 rfl) hM.all 0 (by omega) (by omega) (by decide) rfl ?_
  have hrg := hR.rg hk
  have hA0b : A 0 = (S.cnt : Int) := hR.c
  refine q_imul (pc' := 25) (dk_at dkX6_digest 16 rfl) rfl ?_
  refine q_iadd (pc' := 26) (dk_at dkX6_digest 17 rfl) rfl ?_
  rw [show (1 + (5 * (A 0))) = ((1 + 5 * S.cnt : Nat) : Int) by rw [hR.c]; omega]
  refine r_cVJ (pc' := 29) (As := [vJ (89497 + (tl : Int)), vI 0, vI ((1 + 5 * S.cnt : Nat) : Int)]) (S := []) cv_RX6_261 (dk_at dkX6_digest 18 rfl) hM.obj rfl (k_M_sums (d := 20) (fs := 0) (mn := 1 + 5 * S.cnt) (by omega) hrg.1 hM) (by omega) (Nat.zero_le _) (Nat.zero_le _) rfl (Nat.le_of_ble_eq_true rfl) rfl (Nat.le_of_ble_eq_true rfl) rfl (fun xx2 hh3 hphh3 => ?_)
  obtain ⟨qq4, rfl⟩ := hphh3
  rw [qq4]
  refine q_lstore_n (pc' := 30) (L' := [some (vR m), some (vJ (mxW (fun k => A (0 + k)) (89497 + (tl : Int)) (1 + 5 * S.cnt))), none, none, none, none]) (dk_at dkX6_digest 19 rfl) (by decide) rfl rfl ?_
  refine q_aload_n (pc' := 31) (dk_at dkX6_digest 20 rfl) rfl rfl ?_
  refine q_lload_n (pc' := 32) (dk_at dkX6_digest 21 rfl) rfl rfl ?_
  refine q_bipush (pc' := 34) (dk_at dkX6_digest 22 rfl) (by decide +kernel) rfl ?_
  refine q_bipush (pc' := 36) (dk_at dkX6_digest 23 rfl) (by decide +kernel) rfl ?_
  refine r_cVJ (pc' := 39) (As := [vJ (mxW (fun k => A (0 + k)) (89497 + (tl : Int)) (1 + 5 * S.cnt)), vI 41, vI 23]) (S := []) cv_RX6_261 (dk_at dkX6_digest 24 rfl) hM.obj rfl (k_M_sums (d := 20) (fs := 41) (mn := 23) (by omega) hrg.2 hM) (by omega) (Nat.zero_le _) (Nat.zero_le _) rfl (Nat.le_of_ble_eq_true rfl) rfl (Nat.le_of_ble_eq_true rfl) rfl (fun xx5 hh6 hphh6 => ?_)
  obtain ⟨qq7, rfl⟩ := hphh6
  rw [qq7]
  rw [dg_all hR]
  refine q_lstore_n (pc' := 40) (L' := [some (vR m), some (vJ (mixS S (89497 + (tl : Int)))), none, none, none, none]) (dk_at dkX6_digest 25 rfl) (by decide) rfl rfl ?_
  refine q_aload_n (pc' := 41) (dk_at dkX6_digest 26 rfl) rfl rfl ?_
  refine r_cVI (pc' := 44) (As := []) (S := []) cv_RX6_189 (dk_at dkX6_digest 27 rfl) hM.obj rfl (k_M_runsKept (d := 6) (by omega) hR hk hkp hP hM) (by omega) (Nat.zero_le _) (Nat.zero_le _) rfl (Nat.le_of_ble_eq_true rfl) rfl (Nat.le_of_ble_eq_true rfl) rfl (fun xx8 hh9 hphh9 => ?_)
  obtain ⟨hx, sq1, op1, ss1, es1, bo1, su1, se1, hM, hS, hT, hGf⟩ := hphh9
  have hF := hF.tr hGf (by omega)
  have hxr := cvS_r hk hkp
  subst hx
  refine q_istore_n (pc' := 45) (L' := [some (vR m), some (vJ (mixS S (89497 + (tl : Int)))), none, some (vI (cvS S P)), none, none]) (dk_at dkX6_digest 28 rfl) (by decide) rfl rfl ?_
  refine q_ldc2 (pc' := 48) (z := 31) kc_RX6_257 (by decide +kernel) (dk_at dkX6_digest 29 rfl) rfl ?_
  refine q_lload_n (pc' := 49) (dk_at dkX6_digest 30 rfl) rfl rfl ?_
  refine q_lmul (pc' := 50) (dk_at dkX6_digest 31 rfl) rfl ?_
  refine q_aload_n (pc' := 51) (dk_at dkX6_digest 32 rfl) rfl rfl ?_
  refine r_getf (pc' := 54) fl_RX6_126 (dk_at dkX6_digest 33 rfl) hM.obj rfl rfl ?_
  refine q_i2l (pc' := 55) (dk_at dkX6_digest 34 rfl) (by omega) rfl ?_
  refine q_ladd (pc' := 56) (dk_at dkX6_digest 35 rfl) rfl ?_
  refine q_lstore_n (pc' := 57) (L' := [some (vR m), some (vJ ((31 * (mixS S (89497 + (tl : Int)))) + (P.bc : Int))), none, some (vI (cvS S P)), none, none]) (dk_at dkX6_digest 36 rfl) (by decide) rfl rfl ?_
  refine q_iconst (pc' := 58) (dk_at dkX6_digest 37 rfl) rfl ?_
  refine q_istore (pc' := 60) (L' := [some (vR m), some (vJ ((31 * (mixS S (89497 + (tl : Int)))) + (P.bc : Int))), none, some (vI (cvS S P)), some (vI 0), none]) (dk_at dkX6_digest 38 rfl) (by decide) rfl rfl ?_
  refine l_md3 (F := _) (by omega) hR hk hkp hS hT hM (by omega) ?_ P.bc 0 _ none (by omega) rfl
  intro z3 v3 x5 hz3
  refine q_ldc2 (pc' := 153) (z := 31) kc_RX6_257 (by decide +kernel) (dk_at dkX6_digest 86 rfl) rfl ?_
  refine q_lload_n (pc' := 154) (dk_at dkX6_digest 87 rfl) rfl rfl ?_
  refine q_lmul (pc' := 155) (dk_at dkX6_digest 88 rfl) rfl ?_
  refine q_iload_n (pc' := 156) (dk_at dkX6_digest 89 rfl) rfl rfl ?_
  refine q_i2l (pc' := 157) (dk_at dkX6_digest 90 rfl) (by omega) rfl ?_
  refine q_ladd (pc' := 158) (dk_at dkX6_digest 91 rfl) rfl ?_
  refine q_lstore_n (pc' := 159) (L' := [some (vR m), some (vJ ((31 * z3) + (cvS S P))), none, some (vI (cvS S P)), some (vI v3), x5]) (dk_at dkX6_digest 92 rfl) (by decide) rfl rfl ?_
  refine q_ldc2 (pc' := 162) (z := 31) kc_RX6_257 (by decide +kernel) (dk_at dkX6_digest 93 rfl) rfl ?_
  refine q_lload_n (pc' := 163) (dk_at dkX6_digest 94 rfl) rfl rfl ?_
  refine q_lmul (pc' := 164) (dk_at dkX6_digest 95 rfl) rfl ?_
  refine q_aload_n (pc' := 165) (dk_at dkX6_digest 96 rfl) rfl rfl ?_
  refine r_cVI (pc' := 168) (As := []) (S := [vJ (31 * ((31 * z3) + (cvS S P)))]) cv_RX6_250 (dk_at dkX6_digest 97 rfl) hM.obj rfl (k_M_best (d := 20) (S := S) (by omega) hR hk hL hM) (by omega) (Nat.zero_le _) (Nat.zero_le _) rfl (Nat.le_of_ble_eq_true rfl) rfl (Nat.le_of_ble_eq_true rfl) rfl (fun xx10 hh11 hphh11 => ?_)
  obtain ⟨ex1, exr, le1, fr1, un1, sF1, sR1, sT1, nf1, ne1, nc1, hM, hL, hGf⟩ := hphh11
  have hF := hF.tr hGf (by omega)
  rw [ex1] at exr
  subst ex1
  refine q_i2l (pc' := 169) (dk_at dkX6_digest 98 rfl) (by omega) rfl ?_
  refine q_ladd (pc' := 170) (dk_at dkX6_digest 99 rfl) rfl ?_
  refine q_lstore_n (pc' := 171) (L' := [some (vR m), some (vJ ((31 * ((31 * z3) + (cvS S P))) + (lcS S (-1)))), none, some (vI (cvS S P)), some (vI v3), x5]) (dk_at dkX6_digest 100 rfl) (by decide) rfl rfl ?_
  refine q_ldc2 (pc' := 174) (z := 31) kc_RX6_257 (by decide +kernel) (dk_at dkX6_digest 101 rfl) rfl ?_
  refine q_lload_n (pc' := 175) (dk_at dkX6_digest 102 rfl) rfl rfl ?_
  refine q_lmul (pc' := 176) (dk_at dkX6_digest 103 rfl) rfl ?_
  refine q_aload_n (pc' := 177) (dk_at dkX6_digest 104 rfl) rfl rfl ?_
  refine r_getf (pc' := 180) fl_RX6_70 (dk_at dkX6_digest 105 rfl) hM.obj rfl rfl ?_
  refine q_i2l (pc' := 181) (dk_at dkX6_digest 106 rfl) (by omega) rfl ?_
  refine q_ladd (pc' := 182) (dk_at dkX6_digest 107 rfl) rfl ?_
  refine r_lret rfl (dk_at dkX6_digest 108 rfl) ?_
  refine ⟨?_, ⟨_, _, _, _, _, _, _, _, _, _, _, _, _, _, _, _, _, _, _, _, _, _, _, hM, ⟨hR, hP⟩, hSv, hTx, hL⟩, hF⟩
  rw [hz3]
  rfl
