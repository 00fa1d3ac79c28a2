/-! BatchMachineModel: runsBatch, runs -/
/-- the time in a batch b as the model has it, behind i places -/
def nwM (S : Shp) (P : PlS) (b i : Nat) : Int := if i = 0 ∧ S.wh ≠ 1 then sst S P.od (bgn P.en b) (P.en b).toNat (frB S P.od P.en b) + stp S P.od (bgn P.en b) (lstB S P.od P.en b) else ptm S P.od (f0B S P.od P.en b) (bgn P.en b) i
def TmI (S : Shp) (P : PlS) (b i : Nat) (ss es bo : Nat → Int) : Prop :=
  (∀ k, k < bgn P.en b → ss k = stK S P.od P.en P.bc k ∧ es k = cmK S P.od P.en P.bc k ∧ bo k = ((bix P.en k P.bc : Nat) : Int)) ∧
  ∀ q, q < i → ss (bgn P.en b + q) = stK S P.od P.en P.bc (bgn P.en b + q) ∧ es (bgn P.en b + q) = ptm S P.od (f0B S P.od P.en b) (bgn P.en b) (q + 1) ∧ bo (bgn P.en b + q) = (b : Int)
section TMI
variable {S : Shp} {P : PlS} {b : Nat}
theorem stK_at (hp : PlOk S.cnt P) (hb : b < P.bc) {i : Nat} (hi : bgn P.en b + i < bgn P.en (b + 1)) : bix P.en (bgn P.en b + i) P.bc = b ∧ stK S P.od P.en P.bc (bgn P.en b + i) = max (ptm S P.od (f0B S P.od P.en b) (bgn P.en b) i) (S.V 2 (jb P.od (bgn P.en b + i))) ∧ cmK S P.od P.en P.bc (bgn P.en b + i) = if S.wh = 1 then frB S P.od P.en (b + 1) else ptm S P.od (f0B S P.od P.en b) (bgn P.en b) (i + 1) := by
  have hp' : Pok S.cnt P.od P.en P.bc P.sz := hp
  have hx : bix P.en (bgn P.en b + i) P.bc = b := by
    rw [bgn_succ] at hi
    exact bix_at hp' (Nat.le_add_right _ _) (by omega) P.bc (by omega) (Nat.le_refl _)
  refine ⟨hx, ?_, ?_⟩
  · unfold stK
    rw [hx, show bgn P.en b + i - bgn P.en b = i by omega]
  · unfold cmK
    rw [hx, show bgn P.en b + i - bgn P.en b = i by omega]
/-- in a whole batch no job waits -/
theorem rel_le (hk : Sok S) (hp : PlOk S.cnt P) (hb : b < P.bc) (hw : S.wh = 1) {i : Nat} (hi : bgn P.en b + i < bgn P.en (b + 1)) : S.V 2 (jb P.od (bgn P.en b + i)) ≤ ptm S P.od (f0B S P.od P.en b) (bgn P.en b) i := by
  have hp' : Pok S.cnt P.od P.en P.bc P.sz := hp
  have h0 := f0B_r hk hp hb
  have h1 := ptm_r hk.v P.od h0.1 (bgn P.en b) i
  have h2 := rdW_ge (S := S) (o := P.od) (be := bgn P.en b) ((P.en b).toNat - bgn P.en b - 1) i (by rw [bgn_succ] at hi; omega)
  have h3 : rdW S P.od (bgn P.en b) ((P.en b).toNat - bgn P.en b - 1) ≤ f0B S P.od P.en b := by
    unfold f0B fst0 rdy
    rw [if_pos hw]
    omega
  omega
theorem nw_start (hk : Sok S) (hp : PlOk S.cnt P) (hb : b < P.bc) {i : Nat} (hi : bgn P.en b + i < bgn P.en (b + 1)) (z : Int) (hz : (S.wh = 1 ∧ z = nwM S P b i) ∨ (S.wh ≠ 1 ∧ z = max (nwM S P b i) (S.V 2 (jb P.od (bgn P.en b + i))))) : z = stK S P.od P.en P.bc (bgn P.en b + i) ∧ z + S.V 1 (jb P.od (bgn P.en b + i)) = ptm S P.od (f0B S P.od P.en b) (bgn P.en b) (i + 1) := by
  obtain ⟨-, h2, -⟩ := stK_at hp hb hi
  have h4 : z = max (ptm S P.od (f0B S P.od P.en b) (bgn P.en b) i) (S.V 2 (jb P.od (bgn P.en b + i))) := by
    rcases hz with ⟨w, e⟩ | ⟨w, e⟩
    · have h3 := rel_le hk hp hb w hi
      rw [e]
      unfold nwM
      rw [if_neg (by omega)]
      omega
    · rw [e]
      unfold nwM
      by_cases q : i = 0
      · rw [if_pos ⟨q, w⟩, q]
        show _ = max (f0B S P.od P.en b) _
        unfold f0B fst0 rdy
        rw [if_neg w, Nat.add_zero]
        omega
      · rw [if_neg (fun y => q y.1)]
  exact ⟨by rw [h2]; exact h4, by rw [h4]; rfl⟩
theorem nw_pos {i : Nat} (hi : 0 < i) : nwM S P b i = ptm S P.od (f0B S P.od P.en b) (bgn P.en b) i := by
  unfold nwM
  rw [if_neg (by omega)]
theorem nw_r (hk : Sok S) (hp : PlOk S.cnt P) (hb : b < P.bc) {i : Nat} (hi : bgn P.en b + i ≤ bgn P.en (b + 1)) : 0 ≤ nwM S P b i ∧ nwM S P b i ≤ 1500 := by
  have hp' : Pok S.cnt P.od P.en P.bc P.sz := hp
  have h0 := f0B_r hk hp hb
  have h1 := ptm_r hk.v P.od h0.1 (bgn P.en b) i
  have h8 := hp'.1
  have h9 := hp'.2.1
  have g1 := hp'.bg b (by omega)
  have g2 := hp'.bg (b + 1) (by omega)
  have hf := frB_r hk.v hk.t hp' b (by omega)
  have hr := rdy_r hk.v P.od (bgn P.en b) (P.en b).toNat
  have ht : 0 ≤ stp S P.od (bgn P.en b) (lstB S P.od P.en b) ∧ stp S P.od (bgn P.en b) (lstB S P.od P.en b) ≤ 60 := hk.t _ _
  unfold nwM sst
  split
  · split <;> omega
  · omega
theorem nw_end (hp : PlOk S.cnt P) (hb : b < P.bc) : nwM S P b (bgn P.en (b + 1) - bgn P.en b) = frB S P.od P.en (b + 1) := by
  have hp' : Pok S.cnt P.od P.en P.bc P.sz := hp
  have := hp'.nx hb
  rw [nw_pos (by omega)]
  show _ = fre S P.od (bgn P.en b) (P.en b).toNat (lstB S P.od P.en b) (frB S P.od P.en b)
  rw [bgn_succ]
  rfl
theorem TmI_step {i : Nat} {ss es bo : Nat → Int} {z y : Int} (h : TmI S P b i ss es bo) (hz : z = stK S P.od P.en P.bc (bgn P.en b + i)) (hy : y = ptm S P.od (f0B S P.od P.en b) (bgn P.en b) (i + 1)) : TmI S P b (i + 1) (upz ss (bgn P.en b + i) z) (upz es (bgn P.en b + i) y) (upz bo (bgn P.en b + i) (b : Int)) := by
  refine ⟨fun k hk => ?_, fun q hq => ?_⟩
  · rw [upz_ne (by omega), upz_ne (by omega), upz_ne (by omega)]; exact h.1 k hk
  · by_cases w : q = i
    · rw [w, upz_eq, upz_eq, upz_eq]; exact ⟨hz, hy, rfl⟩
    · rw [upz_ne (by omega), upz_ne (by omega), upz_ne (by omega)]; exact h.2 q (by omega)
/-- a batch has been followed -/
theorem TmM_next (hp : PlOk S.cnt P) (hb : b < P.bc) {ss es bo su se es2 : Nat → Int} {u v : Int} (h : TmM S P b ss es bo su se) {ss1 es1 bo1 : Nat → Int} (hI : TmI S P b (bgn P.en (b + 1) - bgn P.en b) ss1 es1 bo1) (h2 : (S.wh = 1 ∧ ∀ k, es2 k = if bgn P.en b ≤ k ∧ k < bgn P.en (b + 1) then frB S P.od P.en (b + 1) else es1 k) ∨ (S.wh ≠ 1 ∧ es2 = es1)) (hu : u = sst S P.od (bgn P.en b) (P.en b).toNat (frB S P.od P.en b)) (hv : v = u + stp S P.od (bgn P.en b) (lstB S P.od P.en b)) : TmM S P (b + 1) ss1 es2 bo1 (upz su b u) (upz se b v) := by
  refine ⟨fun k hk => ?_, fun b' hb' => ?_⟩
  · by_cases z : k < bgn P.en b
    · obtain ⟨a1, a2, a3⟩ := hI.1 k z
      refine ⟨a1, ?_, a3⟩
      rcases h2 with ⟨w, e⟩ | ⟨w, e⟩
      · rw [e k, if_neg (by omega)]; exact a2
      · rw [e]; exact a2
    · obtain ⟨q, rfl⟩ : ∃ q, k = bgn P.en b + q := ⟨k - bgn P.en b, by omega⟩
      obtain ⟨a1, a2, a3⟩ := hI.2 q (by omega)
      obtain ⟨s1, s2, s3⟩ := stK_at (S := S) hp hb (i := q) (by omega)
      refine ⟨a1, ?_, by rw [s1]; exact a3⟩
      rw [s3]
      rcases h2 with ⟨w, e⟩ | ⟨w, e⟩
      · rw [e, if_pos (by omega), if_pos w]
      · rw [e, if_neg w]; exact a2
  · by_cases z : b' = b
    · rw [z, upz_eq, upz_eq, hv, hu]; exact ⟨rfl, rfl⟩
    · rw [upz_ne z, upz_ne z]; exact h.2 b' (by omega)
end TMI
theorem sqj {c : Nat} {o e : Nat → Int} {bc m : Nat} (hp : Pok c o e bc m) {sq : Nat → Int} (hS : ∀ k, k < m → sq k = o k) (k : Nat) (hk : k < m) : jb o k < c ∧ sq k = ((jb o k : Nat) : Int) := by
  have a := hp.2.2.2.2.2.1 k hk
  have b := hp.2.2.1 k
  rw [hS k hk]
  unfold jb
  omega
set_option maxHeartbeats 4000000 in
set_option maxRecDepth 100000 in
theorem l_rbR {d n : Nat} {F : FT} {h : PH} {m b : Nat} {S : Shp} {P : PlS} {A sd sq op ss es bo su se tx ba le fr un sF sR sT ad : Nat → Int} {sm th l0 bm tl nf ne nc : Int} {fr0 la : Int} (hd : 2 ≤ d) (hR : MR A S) (hk : Sok S) (hkp : Pok S.cnt P.od P.en P.bc P.sz) (hS : ∀ k, k < P.sz → sq k = P.od k) (hb : b < P.bc) (hnx : bgn P.en b < bgn P.en (b + 1) ∧ bgn P.en (b + 1) ≤ P.sz ∧ ((bgn P.en (b + 1) : Nat) : Int) = P.en b) (hp8 : P.sz ≤ 8) (hpb : P.bc ≤ P.sz) (hwr : S.wh = 0 ∨ S.wh = 1) (hM : isModel n h m A sd sm th sq op l0 ss es bo su se bm tx tl ba le fr un nf ne nc sF sR sT ad) (hex : ∀ (z : Int) (i : Int), z = rdy S P.od (bgn P.en b) (P.en b).toNat → QN mX6_runsBatch d F 70 [some (vR m), some (vI ((bgn P.en b : Nat) : Int)), some (vI ((bgn P.en (b + 1) : Nat) : Int)), some (vI fr0), some (vI la), some (vI S.wh), some (vI z), some (vI i), none] [] n h) : ∀ (c : Nat) (i : Nat) (z : Int), (i + c = bgn P.en (b + 1)) → (bgn P.en b ≤ i) → (S.wh ≠ 1 → i = bgn P.en b) → (z = rdW S P.od (bgn P.en b) (i - bgn P.en b - 1)) → (0 ≤ z ∧ z ≤ 300) → QN mX6_runsBatch d F 34 [some (vR m), some (vI ((bgn P.en b : Nat) : Int)), some (vI ((bgn P.en (b + 1) : Nat) : Int)), some (vI fr0), some (vI la), some (vI S.wh), some (vI z), some (vI (i : Int)), none] [] n h := by
  intro c
  induction c with
  | zero =>
    intro i z hc hi hz0 hz hzr
    refine q_iload (pc' := 36) (dk_at dkX6_runsBatch 20 rfl) rfl rfl ?_
    refine q_iload_n (pc' := 37) (dk_at dkX6_runsBatch 21 rfl) rfl rfl ?_
    refine q_icmp_ge (tgt := 70) (pc' := 40) (dk_at dkX6_runsBatch 22 rfl) rfl rfl (by omega) (by omega) (fun c37 => ?_) (fun c37 => ?_)
    · refine hex z i ?_
      unfold rdy
      rw [← show bgn P.en (b + 1) = (P.en b).toNat from bgn_succ _ _]
      first | (rw [if_pos (by omega), hz, show i = bgn P.en (b + 1) by omega]; done) | (have := hz0 (by omega); rw [if_neg (by omega), hz, this, show bgn P.en b - bgn P.en b - 1 = 0 by omega]; rfl)
    · exfalso
      omega
  | succ c ih =>
    intro i z hc hi hz0 hz hzr
    refine q_iload (pc' := 36) (dk_at dkX6_runsBatch 20 rfl) rfl rfl ?_
    refine q_iload_n (pc' := 37) (dk_at dkX6_runsBatch 21 rfl) rfl rfl ?_
    refine q_icmp_ge (tgt := 70) (pc' := 40) (dk_at dkX6_runsBatch 22 rfl) rfl rfl (by omega) (by omega) (fun c37 => ?_) (fun c37 => ?_)
    · refine hex z i ?_
      unfold rdy
      rw [← show bgn P.en (b + 1) = (P.en b).toNat from bgn_succ _ _]
      first | (rw [if_pos (by omega), hz, show i = bgn P.en (b + 1) by omega]; done) | (have := hz0 (by omega); rw [if_neg (by omega), hz, this, show bgn P.en b - bgn P.en b - 1 = 0 by omega]; rfl)
    · refine q_iload (pc' := 42) (dk_at dkX6_runsBatch 23 rfl) rfl rfl ?_
      refine q_if_eq (tgt := 70) (pc' := 45) (dk_at dkX6_runsBatch 24 rfl) rfl rfl (by omega) (fun c42 => ?_) (fun c42 => ?_)
      · refine hex z i ?_
        unfold rdy
        rw [← show bgn P.en (b + 1) = (P.en b).toNat from bgn_succ _ _]
        first | (rw [if_pos (by omega), hz, show i = bgn P.en (b + 1) by omega]; done) | (have := hz0 (by omega); rw [if_neg (by omega), hz, this, show bgn P.en b - bgn P.en b - 1 = 0 by omega]; rfl)
      · refine q_iload (pc' := 47) (dk_at dkX6_runsBatch 25 rfl) rfl rfl ?_
        refine q_aload_n (pc' := 48) (dk_at dkX6_runsBatch 26 rfl) rfl rfl ?_
        refine q_aload_n (pc' := 49) (dk_at dkX6_runsBatch 27 rfl) rfl rfl ?_
        refine r_getf (pc' := 52) fl_RX6_16 (dk_at dkX6_runsBatch 28 rfl) hM.obj rfl rfl ?_
        refine q_iload (pc' := 54) (dk_at dkX6_runsBatch 29 rfl) rfl rfl ?_
        refine r_iald (pc' := 55) (dk_at dkX6_runsBatch 30 rfl) hM.sequence i (by omega) (by omega) (by decide) rfl ?_
        refine q_iconst (pc' := 56) (dk_at dkX6_runsBatch 31 rfl) rfl ?_
        refine r_cVI (pc' := 59) (As := [vI (sq i), vI 2]) (S := [vI z]) cv_RX6_104 (dk_at dkX6_runsBatch 32 rfl) hM.obj rfl (k_M_of (d := 0) (j := jb P.od i) (w := 2) hR hk.c (sqj hkp hS i (by omega)).2 rfl (sqj hkp hS i (by omega)).1 (by omega) hM) (by omega) (Nat.zero_le _) (Nat.zero_le _) rfl (Nat.le_of_ble_eq_true rfl) rfl (Nat.le_of_ble_eq_true rfl) rfl (fun xx1 hh2 hphh2 => ?_)
        obtain ⟨qq3, rfl⟩ := hphh2
        rw [qq3]
        have bb4 := hk.v 2 (jb P.od i)
        refine r_cSI (pc' := 62) (As := [vI z, vI (S.V 2 (jb P.od i))]) (S := []) cs_RX6_143 (dk_at dkX6_runsBatch 33 rfl) (k_M_later (d := 0) (by omega) (by omega)) (by omega) (Nat.zero_le _) (Nat.zero_le _) rfl (Nat.le_of_ble_eq_true rfl) rfl (Nat.le_of_ble_eq_true rfl) rfl (fun xx5 hh6 hphh6 => ?_)
        obtain ⟨qq7, rfl⟩ := hphh6
        rw [qq7]
        refine q_istore (pc' := 64) (L' := [some (vR m), some (vI ((bgn P.en b : Nat) : Int)), some (vI ((bgn P.en (b + 1) : Nat) : Int)), some (vI fr0), some (vI la), some (vI S.wh), some (vI (max z (S.V 2 (jb P.od i)))), some (vI (i : Int)), none]) (dk_at dkX6_runsBatch 34 rfl) (by decide) rfl rfl ?_
        refine q_iinc (pc' := 67) (L' := [some (vR m), some (vI ((bgn P.en b : Nat) : Int)), some (vI ((bgn P.en (b + 1) : Nat) : Int)), some (vI fr0), some (vI la), some (vI S.wh), some (vI (max z (S.V 2 (jb P.od i)))), some (vI ((i : Int) + 1)), none]) (dk_at dkX6_runsBatch 35 rfl) (by decide) rfl rfl rfl ?_
        rw [show ((i : Int) + 1) = ((i + 1 : Nat) : Int) by omega]
        refine q_goto (tgt := 34) (dk_at dkX6_runsBatch 36 rfl) rfl ?_
        refine ih (i + 1) _ (by omega) (by omega) (fun y => by omega) ?_ (by omega)
        rw [hz]
        by_cases y : i = bgn P.en b
        · rw [y, show bgn P.en b - bgn P.en b - 1 = 0 by omega, show bgn P.en b + 1 - bgn P.en b - 1 = 0 by omega]
          show max (S.V 2 (jb P.od (bgn P.en b))) _ = S.V 2 (jb P.od (bgn P.en b))
          omega
        · rw [show i + 1 - bgn P.en b - 1 = (i - bgn P.en b - 1) + 1 by omega]
          show _ = max _ (S.V 2 (jb P.od (bgn P.en b + 1 + (i - bgn P.en b - 1))))
          rw [show bgn P.en b + 1 + (i - bgn P.en b - 1) = i by omega]

set_option maxHeartbeats 4000000 in
set_option maxRecDepth 100000 in
theorem l_rbT {d n : Nat} {F : FT} {h : PH} {m b : Nat} {S : Shp} {P : PlS} {A sd sq op su se tx ba le fr un sF sR sT ad : Nat → Int} {sm th l0 tl nf ne nc : Int} {fr0 la : Int} {x6 : Int} (hd : 2 ≤ d) (hR : MR A S) (hk : Sok S) (hkp : Pok S.cnt P.od P.en P.bc P.sz) (hS : ∀ k, k < P.sz → sq k = P.od k) (hb : b < P.bc) (hnx : bgn P.en b < bgn P.en (b + 1) ∧ bgn P.en (b + 1) ≤ P.sz ∧ ((bgn P.en (b + 1) : Nat) : Int) = P.en b) (hp8 : P.sz ≤ 8) (hpb : P.bc ≤ P.sz) (hwr : S.wh = 0 ∨ S.wh = 1) (hex : ∀ (ss1 es1 bo1 : Nat → Int) (h1 : PH) (i : Int), TmI S P b (bgn P.en (b + 1) - bgn P.en b) ss1 es1 bo1 → isModel n h1 m A sd sm th sq op l0 ss1 es1 bo1 su se (b : Int) tx tl ba le fr un nf ne nc sF sR sT ad → Fr h h1 m (m + 19) → QN mX6_runsBatch d F 260 [some (vR m), some (vI ((bgn P.en b : Nat) : Int)), some (vI ((bgn P.en (b + 1) : Nat) : Int)), some (vI fr0), some (vI la), some (vI S.wh), some (vI x6), some (vI (nwM S P b (bgn P.en (b + 1) - bgn P.en b))), some (vI i)] [] n h1) : ∀ (c : Nat) (i : Nat) (ss1 es1 bo1 : Nat → Int) (h1 : PH), (bgn P.en b + i + c = bgn P.en (b + 1)) → (TmI S P b i ss1 es1 bo1) → (isModel n h1 m A sd sm th sq op l0 ss1 es1 bo1 su se (b : Int) tx tl ba le fr un nf ne nc sF sR sT ad) → (Fr h h1 m (m + 19)) → QN mX6_runsBatch d F 172 [some (vR m), some (vI ((bgn P.en b : Nat) : Int)), some (vI ((bgn P.en (b + 1) : Nat) : Int)), some (vI fr0), some (vI la), some (vI S.wh), some (vI x6), some (vI (nwM S P b i)), some (vI ((bgn P.en b + i : Nat) : Int))] [] n h1 := by
  intro c
  induction c with
  | zero =>
    intro i ss1 es1 bo1 h1 hc hI hM hF
    refine q_iload (pc' := 174) (dk_at dkX6_runsBatch 92 rfl) rfl rfl ?_
    refine q_iload_n (pc' := 175) (dk_at dkX6_runsBatch 93 rfl) rfl rfl ?_
    refine q_icmp_ge (tgt := 260) (pc' := 178) (dk_at dkX6_runsBatch 94 rfl) rfl rfl (by omega) (by omega) (fun c175 => ?_) (fun c175 => ?_)
    · first | (exfalso; omega; done) | (obtain rfl : i = bgn P.en (b + 1) - bgn P.en b := (by omega); exact hex _ _ _ _ _ hI hM hF)
    · exfalso
      omega
  | succ c ih =>
    intro i ss1 es1 bo1 h1 hc hI hM hF
    refine q_iload (pc' := 174) (dk_at dkX6_runsBatch 92 rfl) rfl rfl ?_
    refine q_iload_n (pc' := 175) (dk_at dkX6_runsBatch 93 rfl) rfl rfl ?_
    refine q_icmp_ge (tgt := 260) (pc' := 178) (dk_at dkX6_runsBatch 94 rfl) rfl rfl (by omega) (by omega) (fun c175 => ?_) (fun c175 => ?_)
    · first | (exfalso; omega; done) | (obtain rfl : i = bgn P.en (b + 1) - bgn P.en b := (by omega); exact hex _ _ _ _ _ hI hM hF)
    · have hnr := nw_r hk hkp hb (i := i) (by omega)
      refine q_aload_n (pc' := 179) (dk_at dkX6_runsBatch 95 rfl) rfl rfl ?_
      refine r_getf (pc' := 182) fl_RX6_22 (dk_at dkX6_runsBatch 96 rfl) hM.obj rfl rfl ?_
      refine q_iload (pc' := 184) (dk_at dkX6_runsBatch 97 rfl) rfl rfl ?_
      refine q_join 211 [some (vR m), some (vI ((bgn P.en b : Nat) : Int)), some (vI ((bgn P.en (b + 1) : Nat) : Int)), some (vI fr0), some (vI la), some (vI S.wh), some (vI x6), some (vI (nwM S P b i)), some (vI ((bgn P.en b + i : Nat) : Int))] [vI ((bgn P.en b + i : Nat) : Int), vR (m + 5)] (fun jx => (S.wh = 1 ∧ jx = nwM S P b i) ∨ (S.wh ≠ 1 ∧ jx = max (nwM S P b i) (S.V 2 (jb P.od (bgn P.en b + i))))) (fun jx211 yst => ?_) (fun J211 => ?_)
      · have hvt := hk.v 2 (jb P.od (bgn P.en b + i))
        obtain ⟨yst1, yst2⟩ := nw_start hk hkp hb (i := i) (by omega) jx211 yst
        have ysr : 0 ≤ jx211 ∧ jx211 ≤ 1800 := by rcases yst with ⟨_, e⟩ | ⟨_, e⟩ <;> omega
        refine r_iast (pc' := 212) (dk_at dkX6_runsBatch 111 rfl) hM.starts (bgn P.en b + i) (by omega) (by omega) (by decide) rfl (fun hh1 ehh1 => ?_)
        have hM := hM.w_starts ehh1
        have hF := hF.put ehh1 (by omega)
        refine q_aload_n (pc' := 213) (dk_at dkX6_runsBatch 112 rfl) rfl rfl ?_
        refine r_getf (pc' := 216) fl_RX6_22 (dk_at dkX6_runsBatch 113 rfl) hM.obj rfl rfl ?_
        refine q_iload (pc' := 218) (dk_at dkX6_runsBatch 114 rfl) rfl rfl ?_
        refine r_iald (pc' := 219) (dk_at dkX6_runsBatch 115 rfl) hM.starts (bgn P.en b + i) (by omega) (by omega) (by decide) rfl ?_
        rw [upz_eq]
        refine q_aload_n (pc' := 220) (dk_at dkX6_runsBatch 116 rfl) rfl rfl ?_
        refine q_aload_n (pc' := 221) (dk_at dkX6_runsBatch 117 rfl) rfl rfl ?_
        refine r_getf (pc' := 224) fl_RX6_16 (dk_at dkX6_runsBatch 118 rfl) hM.obj rfl rfl ?_
        refine q_iload (pc' := 226) (dk_at dkX6_runsBatch 119 rfl) rfl rfl ?_
        refine r_iald (pc' := 227) (dk_at dkX6_runsBatch_1 0 rfl) hM.sequence (bgn P.en b + i) (by omega) (by omega) (by decide) rfl ?_
        refine q_iconst (pc' := 228) (dk_at dkX6_runsBatch_1 1 rfl) rfl ?_
        refine r_cVI (pc' := 231) (As := [vI (sq (bgn P.en b + i)), vI 1]) (S := [vI jx211]) cv_RX6_104 (dk_at dkX6_runsBatch_1 2 rfl) hM.obj rfl (k_M_of (d := 0) (j := jb P.od (bgn P.en b + i)) (w := 1) hR hk.c (sqj hkp hS (bgn P.en b + i) (by omega)).2 rfl (sqj hkp hS (bgn P.en b + i) (by omega)).1 (by omega) hM) (by omega) (Nat.zero_le _) (Nat.zero_le _) rfl (Nat.le_of_ble_eq_true rfl) rfl (Nat.le_of_ble_eq_true rfl) rfl (fun xx2 hh3 hphh3 => ?_)
        obtain ⟨qq4, rfl⟩ := hphh3
        rw [qq4]
        have bb5 := hk.v 1 (jb P.od (bgn P.en b + i))
        refine q_iadd (pc' := 232) (dk_at dkX6_runsBatch_1 3 rfl) rfl ?_
        refine q_istore (pc' := 234) (L' := [some (vR m), some (vI ((bgn P.en b : Nat) : Int)), some (vI ((bgn P.en (b + 1) : Nat) : Int)), some (vI fr0), some (vI la), some (vI S.wh), some (vI x6), some (vI (jx211 + (S.V 1 (jb P.od (bgn P.en b + i))))), some (vI ((bgn P.en b + i : Nat) : Int))]) (dk_at dkX6_runsBatch_1 4 rfl) (by decide) rfl rfl ?_
        refine q_aload_n (pc' := 235) (dk_at dkX6_runsBatch_1 5 rfl) rfl rfl ?_
        refine r_getf (pc' := 238) fl_RX6_25 (dk_at dkX6_runsBatch_1 6 rfl) hM.obj rfl rfl ?_
        refine q_iload (pc' := 240) (dk_at dkX6_runsBatch_1 7 rfl) rfl rfl ?_
        refine q_iload (pc' := 242) (dk_at dkX6_runsBatch_1 8 rfl) rfl rfl ?_
        refine r_iast (pc' := 243) (dk_at dkX6_runsBatch_1 9 rfl) hM.ends (bgn P.en b + i) (by omega) (by omega) (by decide) rfl (fun hh6 ehh6 => ?_)
        have hM := hM.w_ends ehh6
        have hF := hF.put ehh6 (by omega)
        refine q_aload_n (pc' := 244) (dk_at dkX6_runsBatch_1 10 rfl) rfl rfl ?_
        refine r_getf (pc' := 247) fl_RX6_28 (dk_at dkX6_runsBatch_1 11 rfl) hM.obj rfl rfl ?_
        refine q_iload (pc' := 249) (dk_at dkX6_runsBatch_1 12 rfl) rfl rfl ?_
        refine q_aload_n (pc' := 250) (dk_at dkX6_runsBatch_1 13 rfl) rfl rfl ?_
        refine r_getf (pc' := 253) fl_RX6_126 (dk_at dkX6_runsBatch_1 14 rfl) hM.obj rfl rfl ?_
        refine r_iast (pc' := 254) (dk_at dkX6_runsBatch_1 15 rfl) hM.batchOf (bgn P.en b + i) (by omega) (by omega) (by decide) rfl (fun hh7 ehh7 => ?_)
        have hM := hM.w_batchOf ehh7
        have hF := hF.put ehh7 (by omega)
        refine q_iinc (pc' := 257) (L' := [some (vR m), some (vI ((bgn P.en b : Nat) : Int)), some (vI ((bgn P.en (b + 1) : Nat) : Int)), some (vI fr0), some (vI la), some (vI S.wh), some (vI x6), some (vI (jx211 + (S.V 1 (jb P.od (bgn P.en b + i))))), some (vI (((bgn P.en b + i : Nat) : Int) + 1))]) (dk_at dkX6_runsBatch_1 16 rfl) (by decide) rfl rfl rfl ?_
        rw [show (((bgn P.en b + i : Nat) : Int) + 1) = ((((bgn P.en b + i) + 1) : Nat) : Int) by omega]
        refine q_goto (tgt := 172) (dk_at dkX6_runsBatch_1 17 rfl) rfl ?_
        rw [yst2, show ((bgn P.en b + i + 1 : Nat) : Int) = ((bgn P.en b + (i + 1) : Nat) : Int) by omega, ← nw_pos (S := S) (P := P) (b := b) (show 0 < i + 1 by omega)]
        rw [yst2] at hM
        exact ih (i + 1) _ _ _ _ (by omega) (TmI_step hI yst1 rfl) hM hF
      refine q_iload (pc' := 186) (dk_at dkX6_runsBatch 98 rfl) rfl rfl ?_
      refine q_if_eq (tgt := 194) (pc' := 189) (dk_at dkX6_runsBatch 99 rfl) rfl rfl (by omega) (fun c186 => ?_) (fun c186 => ?_)
      · refine q_iload (pc' := 196) (dk_at dkX6_runsBatch 102 rfl) rfl rfl ?_
        refine q_aload_n (pc' := 197) (dk_at dkX6_runsBatch 103 rfl) rfl rfl ?_
        refine q_aload_n (pc' := 198) (dk_at dkX6_runsBatch 104 rfl) rfl rfl ?_
        refine r_getf (pc' := 201) fl_RX6_16 (dk_at dkX6_runsBatch 105 rfl) hM.obj rfl rfl ?_
        refine q_iload (pc' := 203) (dk_at dkX6_runsBatch 106 rfl) rfl rfl ?_
        refine r_iald (pc' := 204) (dk_at dkX6_runsBatch 107 rfl) hM.sequence (bgn P.en b + i) (by omega) (by omega) (by decide) rfl ?_
        refine q_iconst (pc' := 205) (dk_at dkX6_runsBatch 108 rfl) rfl ?_
        refine r_cVI (pc' := 208) (As := [vI (sq (bgn P.en b + i)), vI 2]) (S := [vI (nwM S P b i), vI ((bgn P.en b + i : Nat) : Int), vR (m + 5)]) cv_RX6_104 (dk_at dkX6_runsBatch 109 rfl) hM.obj rfl (k_M_of (d := 0) (j := jb P.od (bgn P.en b + i)) (w := 2) hR hk.c (sqj hkp hS (bgn P.en b + i) (by omega)).2 rfl (sqj hkp hS (bgn P.en b + i) (by omega)).1 (by omega) hM) (by omega) (Nat.zero_le _) (Nat.zero_le _) rfl (Nat.le_of_ble_eq_true rfl) rfl (Nat.le_of_ble_eq_true rfl) rfl (fun xx8 hh9 hphh9 => ?_)
        obtain ⟨qq10, rfl⟩ := hphh9
        rw [qq10]
        have bb11 := hk.v 2 (jb P.od (bgn P.en b + i))
        refine r_cSI (pc' := 211) (As := [vI (nwM S P b i), vI (S.V 2 (jb P.od (bgn P.en b + i)))]) (S := [vI ((bgn P.en b + i : Nat) : Int), vR (m + 5)]) cs_RX6_143 (dk_at dkX6_runsBatch 110 rfl) (k_M_later (d := 0) (by omega) (by omega)) (by omega) (Nat.zero_le _) (Nat.zero_le _) rfl (Nat.le_of_ble_eq_true rfl) rfl (Nat.le_of_ble_eq_true rfl) rfl (fun xx12 hh13 hphh13 => ?_)
        obtain ⟨qq14, rfl⟩ := hphh13
        rw [qq14]
        exact J211 _ (Or.inr ⟨by omega, rfl⟩)
      · refine q_iload (pc' := 191) (dk_at dkX6_runsBatch 100 rfl) rfl rfl ?_
        refine q_goto (tgt := 211) (dk_at dkX6_runsBatch 101 rfl) rfl ?_
        exact J211 _ (Or.inl ⟨by omega, rfl⟩)

set_option maxHeartbeats 4000000 in
set_option maxRecDepth 100000 in
theorem l_rbE {d n : Nat} {F : FT} {h : PH} {m b : Nat} {S : Shp} {P : PlS} {A sd sq op ss bo su se tx ba le fr un sF sR sT ad : Nat → Int} {sm th l0 tl nf ne nc : Int} {es0 : Nat → Int} {fr0 la z : Int} {x6 : Int} (hd : 2 ≤ d) (hR : MR A S) (hk : Sok S) (hkp : Pok S.cnt P.od P.en P.bc P.sz) (hS : ∀ k, k < P.sz → sq k = P.od k) (hb : b < P.bc) (hnx : bgn P.en b < bgn P.en (b + 1) ∧ bgn P.en (b + 1) ≤ P.sz ∧ ((bgn P.en (b + 1) : Nat) : Int) = P.en b) (hp8 : P.sz ≤ 8) (hpb : P.bc ≤ P.sz) (hwr : S.wh = 0 ∨ S.wh = 1) (hex : ∀ (es1 : Nat → Int) (h1 : PH) (i : Int), ((S.wh = 1 ∧ ∀ k, es1 k = if bgn P.en b ≤ k ∧ k < bgn P.en (b + 1) then z else es0 k) ∨ (S.wh ≠ 1 ∧ es1 = es0)) → isModel n h1 m A sd sm th sq op l0 ss es1 bo su se (b : Int) tx tl ba le fr un nf ne nc sF sR sT ad → Fr h h1 m (m + 19) → QN mX6_runsBatch d F 289 [some (vR m), some (vI ((bgn P.en b : Nat) : Int)), some (vI ((bgn P.en (b + 1) : Nat) : Int)), some (vI fr0), some (vI la), some (vI S.wh), some (vI x6), some (vI z), some (vI i)] [] n h1) : ∀ (c : Nat) (i : Nat) (es1 : Nat → Int) (h1 : PH), (i + c = bgn P.en (b + 1)) → (bgn P.en b ≤ i) → (S.wh ≠ 1 → i = bgn P.en b) → (∀ k, es1 k = if bgn P.en b ≤ k ∧ k < i then z else es0 k) → (isModel n h1 m A sd sm th sq op l0 ss es1 bo su se (b : Int) tx tl ba le fr un nf ne nc sF sR sT ad) → (Fr h h1 m (m + 19)) → QN mX6_runsBatch d F 263 [some (vR m), some (vI ((bgn P.en b : Nat) : Int)), some (vI ((bgn P.en (b + 1) : Nat) : Int)), some (vI fr0), some (vI la), some (vI S.wh), some (vI x6), some (vI z), some (vI (i : Int))] [] n h1 := by
  intro c
  induction c with
  | zero =>
    intro i es1 h1 hc hi hz0 hE hM hF
    refine q_iload (pc' := 265) (dk_at dkX6_runsBatch_1 20 rfl) rfl rfl ?_
    refine q_iload_n (pc' := 266) (dk_at dkX6_runsBatch_1 21 rfl) rfl rfl ?_
    refine q_icmp_ge (tgt := 289) (pc' := 269) (dk_at dkX6_runsBatch_1 22 rfl) rfl rfl (by omega) (by omega) (fun c266 => ?_) (fun c266 => ?_)
    · refine hex es1 h1 i ?_ hM hF
      by_cases y : S.wh = 1
      · refine Or.inl ⟨y, fun k => ?_⟩
        rw [hE k, show i = bgn P.en (b + 1) by omega]
      · refine Or.inr ⟨y, funext fun k => ?_⟩
        rw [hE k, if_neg (by have := hz0 y; omega)]
    · exfalso
      omega
  | succ c ih =>
    intro i es1 h1 hc hi hz0 hE hM hF
    refine q_iload (pc' := 265) (dk_at dkX6_runsBatch_1 20 rfl) rfl rfl ?_
    refine q_iload_n (pc' := 266) (dk_at dkX6_runsBatch_1 21 rfl) rfl rfl ?_
    refine q_icmp_ge (tgt := 289) (pc' := 269) (dk_at dkX6_runsBatch_1 22 rfl) rfl rfl (by omega) (by omega) (fun c266 => ?_) (fun c266 => ?_)
    · refine hex es1 h1 i ?_ hM hF
      by_cases y : S.wh = 1
      · refine Or.inl ⟨y, fun k => ?_⟩
        rw [hE k, show i = bgn P.en (b + 1) by omega]
      · refine Or.inr ⟨y, funext fun k => ?_⟩
        rw [hE k, if_neg (by have := hz0 y; omega)]
    · refine q_iload (pc' := 271) (dk_at dkX6_runsBatch_1 23 rfl) rfl rfl ?_
      refine q_if_eq (tgt := 289) (pc' := 274) (dk_at dkX6_runsBatch_1 24 rfl) rfl rfl (by omega) (fun c271 => ?_) (fun c271 => ?_)
      · refine hex es1 h1 i ?_ hM hF
        by_cases y : S.wh = 1
        · refine Or.inl ⟨y, fun k => ?_⟩
          rw [hE k, show i = bgn P.en (b + 1) by omega]
        · refine Or.inr ⟨y, funext fun k => ?_⟩
          rw [hE k, if_neg (by have := hz0 y; omega)]
      · refine q_aload_n (pc' := 275) (dk_at dkX6_runsBatch_1 25 rfl) rfl rfl ?_
        refine r_getf (pc' := 278) fl_RX6_25 (dk_at dkX6_runsBatch_1 26 rfl) hM.obj rfl rfl ?_
        refine q_iload (pc' := 280) (dk_at dkX6_runsBatch_1 27 rfl) rfl rfl ?_
        refine q_iload (pc' := 282) (dk_at dkX6_runsBatch_1 28 rfl) rfl rfl ?_
        refine r_iast (pc' := 283) (dk_at dkX6_runsBatch_1 29 rfl) hM.ends i (by omega) (by omega) (by decide) rfl (fun hh1 ehh1 => ?_)
        have hM := hM.w_ends ehh1
        have hF := hF.put ehh1 (by omega)
        refine q_iinc (pc' := 286) (L' := [some (vR m), some (vI ((bgn P.en b : Nat) : Int)), some (vI ((bgn P.en (b + 1) : Nat) : Int)), some (vI fr0), some (vI la), some (vI S.wh), some (vI x6), some (vI z), some (vI ((i : Int) + 1))]) (dk_at dkX6_runsBatch_1 30 rfl) (by decide) rfl rfl rfl ?_
        rw [show ((i : Int) + 1) = ((i + 1 : Nat) : Int) by omega]
        refine q_goto (tgt := 263) (dk_at dkX6_runsBatch_1 31 rfl) rfl ?_
        refine ih (i + 1) _ _ (by omega) (by omega) (fun y => by omega) (fun k => ?_) hM hF
        by_cases y : k = i
        · rw [y, upz_eq, if_pos (by omega)]
        · rw [upz_ne y, hE k]
          by_cases w : bgn P.en b ≤ k ∧ k < i
          · rw [if_pos w, if_pos (by omega)]
          · rw [if_neg w, if_neg (by omega)]

set_option maxHeartbeats 4000000 in
set_option maxRecDepth 100000 in
theorem k_M_runsBatch {d n : Nat} {h : PH} {m : Nat} {A sd sq op ss es bo su se tx ba le fr un sF sR sT ad : Nat → Int} {sm th l0 tl nf ne nc : Int} {b : Nat} {S : Shp} {P : PlS} (hd : 2 ≤ d) (hR : MR A S) (hk : Sok S) (hkp : Pok S.cnt P.od P.en P.bc P.sz) (hS : ∀ k, k < P.sz → sq k = P.od k) (hb : b < P.bc) (hT : TmM S P b ss es bo su se) (hM : isModel n h m A sd sm th sq op l0 ss es bo su se (b : Int) tx tl ba le fr un nf ne nc sF sR sT ad) : CtrI mX6_runsBatch d [vR m, vI ((bgn P.en b : Nat) : Int), vI ((bgn P.en (b + 1) : Nat) : Int), vI (frB S P.od P.en b), vI (lstB S P.od P.en b)] n h (fun x h' => x = frB S P.od P.en (b + 1) ∧ ∃ ss1 es1 bo1 su1 se1, isModel n h' m A sd sm th sq op l0 ss1 es1 bo1 su1 se1 ((b : Int) + 1) tx tl ba le fr un nf ne nc sF sR sT ad ∧ TmM S P (b + 1) ss1 es1 bo1 su1 se1 ∧ Fr h h' m (m + 19)) := by
  have hF : Fr h h m (m + 19) := Fr.rf
  have hnx := hkp.nx hb
  have hp8 := hkp.1
  have hpb := hkp.2.1
  have hwh := hR.w
  have hwr := hk.w
  have her := hR.e
  have hee := hk.e
  have hfr := frB_r hk.v hk.t hkp b (by omega)
  have hg1 := hkp.bg b (by omega)
  refine q_beginI (L := [some (vR m), some (vI ((bgn P.en b : Nat) : Int)), some (vI ((bgn P.en (b + 1) : Nat) : Int)), some (vI (frB S P.od P.en b)), some (vI (lstB S P.od P.en b)), none, none, none, none]) rfl ?_
  refine q_join 16 [some (vR m), some (vI ((bgn P.en b : Nat) : Int)), some (vI ((bgn P.en (b + 1) : Nat) : Int)), some (vI (frB S P.od P.en b)), some (vI (lstB S P.od P.en b)), none, none, none, none] [] (fun jx => jx = S.wh) (fun jx16 ywl => ?_) (fun J16 => ?_)
  · subst ywl
    refine q_istore (pc' := 18) (L' := [some (vR m), some (vI ((bgn P.en b : Nat) : Int)), some (vI ((bgn P.en (b + 1) : Nat) : Int)), some (vI (frB S P.od P.en b)), some (vI (lstB S P.od P.en b)), some (vI S.wh), none, none, none]) (dk_at dkX6_runsBatch 9 rfl) (by decide) rfl rfl ?_
    refine q_aload_n (pc' := 19) (dk_at dkX6_runsBatch 10 rfl) rfl rfl ?_
    refine q_aload_n (pc' := 20) (dk_at dkX6_runsBatch 11 rfl) rfl rfl ?_
    refine r_getf (pc' := 23) fl_RX6_16 (dk_at dkX6_runsBatch 12 rfl) hM.obj rfl rfl ?_
    refine q_iload_n (pc' := 24) (dk_at dkX6_runsBatch 13 rfl) rfl rfl ?_
    refine r_iald (pc' := 25) (dk_at dkX6_runsBatch 14 rfl) hM.sequence (bgn P.en b) (by omega) (by omega) (by decide) rfl ?_
    refine q_iconst (pc' := 26) (dk_at dkX6_runsBatch 15 rfl) rfl ?_
    refine r_cVI (pc' := 29) (As := [vI (sq (bgn P.en b)), vI 2]) (S := []) cv_RX6_104 (dk_at dkX6_runsBatch 16 rfl) hM.obj rfl (k_M_of (d := 0) (j := jb P.od (bgn P.en b)) (w := 2) hR hk.c (sqj hkp hS (bgn P.en b) (by omega)).2 rfl (sqj hkp hS (bgn P.en b) (by omega)).1 (by omega) hM) (by omega) (Nat.zero_le _) (Nat.zero_le _) rfl (Nat.le_of_ble_eq_true rfl) rfl (Nat.le_of_ble_eq_true rfl) rfl (fun xx1 hh2 hphh2 => ?_)
    obtain ⟨qq3, rfl⟩ := hphh2
    rw [qq3]
    have bb4 := hk.v 2 (jb P.od (bgn P.en b))
    refine q_istore (pc' := 31) (L' := [some (vR m), some (vI ((bgn P.en b : Nat) : Int)), some (vI ((bgn P.en (b + 1) : Nat) : Int)), some (vI (frB S P.od P.en b)), some (vI (lstB S P.od P.en b)), some (vI S.wh), some (vI (S.V 2 (jb P.od (bgn P.en b)))), none, none]) (dk_at dkX6_runsBatch 17 rfl) (by decide) rfl rfl ?_
    refine q_iload_n (pc' := 32) (dk_at dkX6_runsBatch 18 rfl) rfl rfl ?_
    refine q_istore (pc' := 34) (L' := [some (vR m), some (vI ((bgn P.en b : Nat) : Int)), some (vI ((bgn P.en (b + 1) : Nat) : Int)), some (vI (frB S P.od P.en b)), some (vI (lstB S P.od P.en b)), some (vI S.wh), some (vI (S.V 2 (jb P.od (bgn P.en b)))), some (vI ((bgn P.en b : Nat) : Int)), none]) (dk_at dkX6_runsBatch 19 rfl) (by decide) rfl rfl ?_
    refine l_rbR (F := _) hd hR hk hkp hS hb hnx hp8 hpb hwr hM ?_ (bgn P.en (b + 1) - bgn P.en b) (bgn P.en b) _ (by omega) (Nat.le_refl _) (fun _ => rfl) (by rw [show bgn P.en b - bgn P.en b - 1 = 0 by omega]; rfl) (by omega)
    intro rd i0 hrd
    have hrr := rdy_r hk.v P.od (bgn P.en b) (P.en b).toNat
    refine q_aload_n (pc' := 71) (dk_at dkX6_runsBatch 37 rfl) rfl rfl ?_
    refine r_getf (pc' := 74) fl_RX6_31 (dk_at dkX6_runsBatch 38 rfl) hM.obj rfl rfl ?_
    refine q_aload_n (pc' := 75) (dk_at dkX6_runsBatch 39 rfl) rfl rfl ?_
    refine r_getf (pc' := 78) fl_RX6_126 (dk_at dkX6_runsBatch 40 rfl) hM.obj rfl rfl ?_
    refine q_join 99 [some (vR m), some (vI ((bgn P.en b : Nat) : Int)), some (vI ((bgn P.en (b + 1) : Nat) : Int)), some (vI (frB S P.od P.en b)), some (vI (lstB S P.od P.en b)), some (vI S.wh), some (vI rd), some (vI i0), none] [vI (b : Int), vR (m + 8)] (fun jx => jx = (sst S P.od (bgn P.en b) (P.en b).toNat (frB S P.od P.en b))) (fun jx99 yss => ?_) (fun J99 => ?_)
    · subst yss
      have hssr : 0 ≤ (sst S P.od (bgn P.en b) (P.en b).toNat (frB S P.od P.en b)) ∧ (sst S P.od (bgn P.en b) (P.en b).toNat (frB S P.od P.en b)) ≤ 1300 := by unfold sst; split <;> omega
      refine r_iast (pc' := 100) (dk_at dkX6_runsBatch 52 rfl) hM.setupStart b (by omega) (by omega) (by decide) rfl (fun hh5 ehh5 => ?_)
      have hM := hM.w_setupStart ehh5
      have hF := hF.put ehh5 (by omega)
      refine q_aload_n (pc' := 101) (dk_at dkX6_runsBatch 53 rfl) rfl rfl ?_
      refine r_getf (pc' := 104) fl_RX6_34 (dk_at dkX6_runsBatch 54 rfl) hM.obj rfl rfl ?_
      refine q_aload_n (pc' := 105) (dk_at dkX6_runsBatch 55 rfl) rfl rfl ?_
      refine r_getf (pc' := 108) fl_RX6_126 (dk_at dkX6_runsBatch 56 rfl) hM.obj rfl rfl ?_
      refine q_aload_n (pc' := 109) (dk_at dkX6_runsBatch 57 rfl) rfl rfl ?_
      refine r_getf (pc' := 112) fl_RX6_31 (dk_at dkX6_runsBatch 58 rfl) hM.obj rfl rfl ?_
      refine q_aload_n (pc' := 113) (dk_at dkX6_runsBatch 59 rfl) rfl rfl ?_
      refine r_getf (pc' := 116) fl_RX6_126 (dk_at dkX6_runsBatch 60 rfl) hM.obj rfl rfl ?_
      refine r_iald (pc' := 117) (dk_at dkX6_runsBatch 61 rfl) hM.setupStart b (by omega) (by omega) (by decide) rfl ?_
      rw [upz_eq]
      refine q_aload_n (pc' := 118) (dk_at dkX6_runsBatch 62 rfl) rfl rfl ?_
      refine q_iload (pc' := 120) (dk_at dkX6_runsBatch 63 rfl) rfl rfl ?_
      refine q_aload_n (pc' := 121) (dk_at dkX6_runsBatch 64 rfl) rfl rfl ?_
      refine q_aload_n (pc' := 122) (dk_at dkX6_runsBatch 65 rfl) rfl rfl ?_
      refine r_getf (pc' := 125) fl_RX6_16 (dk_at dkX6_runsBatch 66 rfl) hM.obj rfl rfl ?_
      refine q_iload_n (pc' := 126) (dk_at dkX6_runsBatch 67 rfl) rfl rfl ?_
      refine r_iald (pc' := 127) (dk_at dkX6_runsBatch 68 rfl) hM.sequence (bgn P.en b) (by omega) (by omega) (by decide) rfl ?_
      refine q_iconst (pc' := 128) (dk_at dkX6_runsBatch 69 rfl) rfl ?_
      refine r_cVI (pc' := 131) (As := [vI (sq (bgn P.en b)), vI 0]) (S := [vI (lstB S P.od P.en b), vR m, vI (sst S P.od (bgn P.en b) (P.en b).toNat (frB S P.od P.en b)), vI (b : Int), vR (m + 9)]) cv_RX6_104 (dk_at dkX6_runsBatch 70 rfl) hM.obj rfl (k_M_of (d := 0) (j := jb P.od (bgn P.en b)) (w := 0) hR hk.c (sqj hkp hS (bgn P.en b) (by omega)).2 rfl (sqj hkp hS (bgn P.en b) (by omega)).1 (by omega) hM) (by omega) (Nat.zero_le _) (Nat.zero_le _) rfl (Nat.le_of_ble_eq_true rfl) rfl (Nat.le_of_ble_eq_true rfl) rfl (fun xx6 hh7 hphh7 => ?_)
      obtain ⟨qq8, rfl⟩ := hphh7
      rw [qq8]
      have bb9 := hk.v 0 (jb P.od (bgn P.en b))
      have hlr := lstB_r hk.v P.od P.en b
      have htr : 0 ≤ (stp S P.od (bgn P.en b) (lstB S P.od P.en b)) ∧ (stp S P.od (bgn P.en b) (lstB S P.od P.en b)) ≤ 60 := hk.t _ _
      refine r_cVI (pc' := 134) (As := [vI (lstB S P.od P.en b), vI (S.V 0 (jb P.od (bgn P.en b)))]) (S := [vI (sst S P.od (bgn P.en b) (P.en b).toNat (frB S P.od P.en b)), vI (b : Int), vR (m + 9)]) cv_RX6_146 (dk_at dkX6_runsBatch 71 rfl) hM.obj rfl (k_M_setup (d := 0) (t := (S.V 0 (jb P.od (bgn P.en b))).toNat) hR hlr (by omega) (by omega) hM) (by omega) (Nat.zero_le _) (Nat.zero_le _) rfl (Nat.le_of_ble_eq_true rfl) rfl (Nat.le_of_ble_eq_true rfl) rfl (fun xx10 hh11 hphh11 => ?_)
      obtain ⟨qq12, rfl⟩ := hphh11
      rw [qq12]
      refine q_iadd (pc' := 135) (dk_at dkX6_runsBatch 72 rfl) rfl ?_
      refine r_iast (pc' := 136) (dk_at dkX6_runsBatch 73 rfl) hM.setupEnd b (by omega) (by omega) (by decide) rfl (fun hh13 ehh13 => ?_)
      have hM := hM.w_setupEnd ehh13
      have hF := hF.put ehh13 (by omega)
      refine q_join 167 [some (vR m), some (vI ((bgn P.en b : Nat) : Int)), some (vI ((bgn P.en (b + 1) : Nat) : Int)), some (vI (frB S P.od P.en b)), some (vI (lstB S P.od P.en b)), some (vI S.wh), some (vI rd), some (vI i0), none] [] (fun jx => jx = nwM S P b 0) (fun jx167 ynw => ?_) (fun J167 => ?_)
      · subst ynw
        refine q_istore (pc' := 169) (L' := [some (vR m), some (vI ((bgn P.en b : Nat) : Int)), some (vI ((bgn P.en (b + 1) : Nat) : Int)), some (vI (frB S P.od P.en b)), some (vI (lstB S P.od P.en b)), some (vI S.wh), some (vI rd), some (vI (nwM S P b 0)), none]) (dk_at dkX6_runsBatch 89 rfl) (by decide) rfl rfl ?_
        refine q_iload_n (pc' := 170) (dk_at dkX6_runsBatch 90 rfl) rfl rfl ?_
        refine q_istore (pc' := 172) (L' := [some (vR m), some (vI ((bgn P.en b : Nat) : Int)), some (vI ((bgn P.en (b + 1) : Nat) : Int)), some (vI (frB S P.od P.en b)), some (vI (lstB S P.od P.en b)), some (vI S.wh), some (vI rd), some (vI (nwM S P b 0)), some (vI ((bgn P.en b : Nat) : Int))]) (dk_at dkX6_runsBatch 91 rfl) (by decide) rfl rfl ?_
        refine l_rbT (F := _) (h := h) hd hR hk hkp hS hb hnx hp8 hpb hwr ?_ (bgn P.en (b + 1) - bgn P.en b) 0 _ _ _ _ (by omega) ⟨hT.1, fun q hq => absurd hq (Nat.not_lt_zero _)⟩ hM hF
        intro ss1 es1 bo1 h1 i1 hI hM hF
        refine q_iload_n (pc' := 261) (dk_at dkX6_runsBatch_1 18 rfl) rfl rfl ?_
        refine q_istore (pc' := 263) (L' := [some (vR m), some (vI ((bgn P.en b : Nat) : Int)), some (vI ((bgn P.en (b + 1) : Nat) : Int)), some (vI (frB S P.od P.en b)), some (vI (lstB S P.od P.en b)), some (vI S.wh), some (vI rd), some (vI (nwM S P b (bgn P.en (b + 1) - bgn P.en b))), some (vI ((bgn P.en b : Nat) : Int))]) (dk_at dkX6_runsBatch_1 19 rfl) (by decide) rfl rfl ?_
        refine l_rbE (F := _) (h := h) (es0 := es1) hd hR hk hkp hS hb hnx hp8 hpb hwr ?_ (bgn P.en (b + 1) - bgn P.en b) (bgn P.en b) _ _ (by omega) (Nat.le_refl _) (fun _ => rfl) (fun k => by rw [if_neg (by omega)]) hM hF
        intro es2 h2 i2 hE hM hF
        refine q_aload_n (pc' := 290) (dk_at dkX6_runsBatch_1 32 rfl) rfl rfl ?_
        refine q_dup (pc' := 291) (fun _ => rfl) (dk_at dkX6_runsBatch_1 33 rfl) rfl ?_
        refine r_getf (pc' := 294) fl_RX6_126 (dk_at dkX6_runsBatch_1 34 rfl) hM.obj rfl rfl ?_
        refine q_iconst (pc' := 295) (dk_at dkX6_runsBatch_1 35 rfl) rfl ?_
        refine q_iadd (pc' := 296) (dk_at dkX6_runsBatch_1 36 rfl) rfl ?_
        refine r_putf (pc' := 299) fp_RX6_126 (dk_at dkX6_runsBatch_1 37 rfl) hM.obj (Nat.le_of_ble_eq_true rfl) (PT_int _) rfl (fun hh14 ehh14 => ?_)
        have hM := hM.w_obj ehh14
        have hF := hF.put ehh14 (by omega)
        refine q_iload (pc' := 301) (dk_at dkX6_runsBatch_1 38 rfl) rfl rfl ?_
        refine r_iret rfl (dk_at dkX6_runsBatch_1 39 rfl) ?_
        refine ⟨nw_end hkp hb, ss1, es2, bo1, _, _, hM, TmM_next hkp hb hT hI ?_ rfl rfl, hF⟩
        rw [nw_end hkp hb] at hE
        exact hE
      refine q_iload (pc' := 138) (dk_at dkX6_runsBatch 74 rfl) rfl rfl ?_
      refine q_if_eq (tgt := 158) (pc' := 141) (dk_at dkX6_runsBatch 75 rfl) rfl rfl (by omega) (fun c138 => ?_) (fun c138 => ?_)
      · refine q_aload_n (pc' := 159) (dk_at dkX6_runsBatch 84 rfl) rfl rfl ?_
        refine r_getf (pc' := 162) fl_RX6_34 (dk_at dkX6_runsBatch 85 rfl) hM.obj rfl rfl ?_
        refine q_aload_n (pc' := 163) (dk_at dkX6_runsBatch 86 rfl) rfl rfl ?_
        refine r_getf (pc' := 166) fl_RX6_126 (dk_at dkX6_runsBatch 87 rfl) hM.obj rfl rfl ?_
        refine r_iald (pc' := 167) (dk_at dkX6_runsBatch 88 rfl) hM.setupEnd b (by omega) (by omega) (by decide) rfl ?_
        exact J167 _ (by unfold nwM; first | (rw [if_neg (by omega)]; show _ = fst0 _ _ _ _ _ _; unfold fst0; rw [hrd]; done) | (rw [if_pos (by omega)]; exact upz_eq _ _ _) | (rw [if_pos (by omega)]; done))
      · refine q_aload_n (pc' := 142) (dk_at dkX6_runsBatch 76 rfl) rfl rfl ?_
        refine r_getf (pc' := 145) fl_RX6_34 (dk_at dkX6_runsBatch 77 rfl) hM.obj rfl rfl ?_
        refine q_aload_n (pc' := 146) (dk_at dkX6_runsBatch 78 rfl) rfl rfl ?_
        refine r_getf (pc' := 149) fl_RX6_126 (dk_at dkX6_runsBatch 79 rfl) hM.obj rfl rfl ?_
        refine r_iald (pc' := 150) (dk_at dkX6_runsBatch 80 rfl) hM.setupEnd b (by omega) (by omega) (by decide) rfl ?_
        rw [upz_eq]
        refine q_iload (pc' := 152) (dk_at dkX6_runsBatch 81 rfl) rfl rfl ?_
        refine r_cSI (pc' := 155) (As := [vI ((sst S P.od (bgn P.en b) (P.en b).toNat (frB S P.od P.en b)) + (stp S P.od (bgn P.en b) (lstB S P.od P.en b))), vI rd]) (S := []) cs_RX6_143 (dk_at dkX6_runsBatch 82 rfl) (k_M_later (d := 0) (by omega) (by omega)) (by omega) (Nat.zero_le _) (Nat.zero_le _) rfl (Nat.le_of_ble_eq_true rfl) rfl (Nat.le_of_ble_eq_true rfl) rfl (fun xx15 hh16 hphh16 => ?_)
        obtain ⟨qq17, rfl⟩ := hphh16
        rw [qq17]
        refine q_goto (tgt := 167) (dk_at dkX6_runsBatch 83 rfl) rfl ?_
        exact J167 _ (by unfold nwM; first | (rw [if_neg (by omega)]; show _ = fst0 _ _ _ _ _ _; unfold fst0; rw [hrd]; done) | (rw [if_pos (by omega)]; exact upz_eq _ _ _) | (rw [if_pos (by omega)]; done))
    refine q_aload_n (pc' := 79) (dk_at dkX6_runsBatch 41 rfl) rfl rfl ?_
    refine r_getf (pc' := 82) fl_RX6_7 (dk_at dkX6_runsBatch 42 rfl) hM.obj rfl rfl ?_
    refine q_bipush (pc' := 84) (dk_at dkX6_runsBatch 43 rfl) (by decide +kernel) rfl ?_
    refine r_iald (pc' := 85) (dk_at dkX6_runsBatch 44 rfl) hM.all 62 (by omega) (by omega) (by decide) rfl ?_
    refine q_iconst (pc' := 86) (dk_at dkX6_runsBatch 45 rfl) rfl ?_
    refine q_icmp_ne (tgt := 93) (pc' := 89) (dk_at dkX6_runsBatch 46 rfl) rfl rfl (by omega) (by omega) (fun c86 => ?_) (fun c86 => ?_)
    · refine q_iload_n (pc' := 94) (dk_at dkX6_runsBatch 49 rfl) rfl rfl ?_
      refine q_iload (pc' := 96) (dk_at dkX6_runsBatch 50 rfl) rfl rfl ?_
      refine r_cSI (pc' := 99) (As := [vI (frB S P.od P.en b), vI rd]) (S := [vI (b : Int), vR (m + 8)]) cs_RX6_143 (dk_at dkX6_runsBatch 51 rfl) (k_M_later (d := 0) (by omega) (by omega)) (by omega) (Nat.zero_le _) (Nat.zero_le _) rfl (Nat.le_of_ble_eq_true rfl) rfl (Nat.le_of_ble_eq_true rfl) rfl (fun xx18 hh19 hphh19 => ?_)
      obtain ⟨qq20, rfl⟩ := hphh19
      rw [qq20]
      exact J99 _ (by unfold sst; first | rw [if_pos (by omega)] | rw [if_neg (by omega), ← hrd])
    · refine q_iload_n (pc' := 90) (dk_at dkX6_runsBatch 47 rfl) rfl rfl ?_
      refine q_goto (tgt := 99) (dk_at dkX6_runsBatch 48 rfl) rfl ?_
      exact J99 _ (by unfold sst; first | rw [if_pos (by omega)] | rw [if_neg (by omega), ← hrd])
  refine q_aload_n (pc' := 1) (dk_at dkX6_runsBatch 0 rfl) rfl rfl ?_
  refine r_getf (pc' := 4) fl_RX6_7 (dk_at dkX6_runsBatch 1 rfl) hM.obj rfl rfl ?_
  refine q_bipush (pc' := 6) (dk_at dkX6_runsBatch 2 rfl) (by decide +kernel) rfl ?_
  refine r_iald (pc' := 7) (dk_at dkX6_runsBatch 3 rfl) hM.all 61 (by omega) (by omega) (by decide) rfl ?_
  refine q_iconst (pc' := 8) (dk_at dkX6_runsBatch 4 rfl) rfl ?_
  refine q_icmp_ne (tgt := 15) (pc' := 11) (dk_at dkX6_runsBatch 5 rfl) rfl rfl (by omega) (by omega) (fun c8 => ?_) (fun c8 => ?_)
  · refine q_iconst (pc' := 16) (dk_at dkX6_runsBatch 8 rfl) rfl ?_
    exact J16 _ (by omega)
  · refine q_iconst (pc' := 12) (dk_at dkX6_runsBatch 6 rfl) rfl ?_
    refine q_goto (tgt := 16) (dk_at dkX6_runsBatch 7 rfl) rfl ?_
    exact J16 _ (by omega)
