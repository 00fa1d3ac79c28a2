/-! what a plan costs follows from its places and its batches alone -/
theorem jb_congr {o o' : Nat → Int} {k : Nat} (h : o k = o' k) : jb o k = jb o' k := by unfold jb; rw [h]
theorem rdW_congr {S : Shp} {o o' : Nat → Int} {be : Nat} : ∀ i, (∀ k, k ≤ i → o (be + k) = o' (be + k)) → rdW S o be i = rdW S o' be i
  | 0, h => by
    show S.V 2 (jb o be) = S.V 2 (jb o' be)
    rw [jb_congr (k := be) (h 0 (Nat.le_refl _))]
  | i + 1, h => by
    show max (rdW S o be i) (S.V 2 (jb o (be + 1 + i))) = max (rdW S o' be i) (S.V 2 (jb o' (be + 1 + i)))
    have e := h (i + 1) (Nat.le_refl _)
    rw [show be + (i + 1) = be + 1 + i by omega] at e
    rw [rdW_congr i (fun k hk => h k (by omega)), jb_congr e]
theorem rdy_congr {S : Shp} {o o' : Nat → Int} {be en : Nat} (hb : be < en) (h : ∀ k, be ≤ k → k < en → o k = o' k) : rdy S o be en = rdy S o' be en := by
  unfold rdy
  rw [rdW_congr (o' := o') (en - be - 1) (fun k hk => h _ (by omega) (by omega)), jb_congr (h be (Nat.le_refl _) hb)]
theorem ptm_congr {S : Shp} {o o' : Nat → Int} {t0 : Int} {be : Nat} : ∀ i, (∀ k, k < i → o (be + k) = o' (be + k)) → ptm S o t0 be i = ptm S o' t0 be i
  | 0, _ => rfl
  | i + 1, h => by
    show max (ptm S o t0 be i) (S.V 2 (jb o (be + i))) + S.V 1 (jb o (be + i)) = max (ptm S o' t0 be i) (S.V 2 (jb o' (be + i))) + S.V 1 (jb o' (be + i))
    rw [ptm_congr i (fun k hk => h k (by omega)), jb_congr (h i (by omega))]
theorem tsum_congr {S : Shp} {o o' : Nat → Int} {be : Nat} : ∀ i, (∀ k, k < i → o (be + k) = o' (be + k)) → tsum S o be i = tsum S o' be i
  | 0, _ => rfl
  | i + 1, h => by
    show tsum S o be i + S.V 1 (jb o (be + i)) = tsum S o' be i + S.V 1 (jb o' (be + i))
    rw [tsum_congr i (fun k hk => h k (by omega)), jb_congr (h i (by omega))]
theorem fst0_congr {S : Shp} {o o' : Nat → Int} {be en : Nat} {l f : Int} (hb : be < en) (h : ∀ k, be ≤ k → k < en → o k = o' k) : fst0 S o be en l f = fst0 S o' be en l f := by
  unfold fst0 sst stp
  rw [rdy_congr hb h, jb_congr (h be (Nat.le_refl _) hb)]
theorem fre_congr {S : Shp} {o o' : Nat → Int} {be en : Nat} {l f : Int} (hb : be < en) (h : ∀ k, be ≤ k → k < en → o k = o' k) : fre S o be en l f = fre S o' be en l f := by
  unfold fre
  rw [fst0_congr hb h, ptm_congr (o' := o') (en - be) (fun k hk => h _ (by omega) (by omega))]
section CONG
variable {S : Shp} {o o' e e' : Nat → Int} {bc m : Nat}
/-- batches that lie within m places -/
def BtW (e : Nat → Int) (bc m : Nat) : Prop := ∀ b, b < bc → bgn e b < (e b).toNat ∧ (e b).toNat ≤ m
theorem Pok.btw {c : Nat} (h : Pok c o e bc m) : BtW e bc m := fun b hb => by
  have := h.2.2.2.1 b hb
  omega
theorem bgn_congr (hE : ∀ b, b < bc → e b = e' b) : ∀ b, b ≤ bc → bgn e b = bgn e' b := fun b hb => by
  unfold bgn
  by_cases q : 0 < b
  · rw [if_pos q, if_pos q, hE (b - 1) (by omega)]
  · rw [if_neg q, if_neg q]
theorem lstB_congr (hO : ∀ k, k < m → o k = o' k) (hE : ∀ b, b < bc → e b = e' b) (hW : BtW e bc m) : ∀ b, b ≤ bc → lstB S o e b = lstB S o' e' b := fun b hb => by
  unfold lstB
  by_cases q : 0 < b
  · have := hW (b - 1) (by omega)
    rw [if_pos q, if_pos q, ← bgn_congr hE (b - 1) (by omega), jb_congr (hO (bgn e (b - 1)) (by omega))]
  · rw [if_neg q, if_neg q]
theorem frB_congr (hO : ∀ k, k < m → o k = o' k) (hE : ∀ b, b < bc → e b = e' b) (hW : BtW e bc m) : ∀ b, b ≤ bc → frB S o e b = frB S o' e' b
  | 0, _ => rfl
  | b + 1, hb => by
    have hw := hW b (by omega)
    show fre S o (bgn e b) (e b).toNat (lstB S o e b) (frB S o e b) = fre S o' (bgn e' b) (e' b).toNat (lstB S o' e' b) (frB S o' e' b)
    rw [frB_congr hO hE hW b (by omega), lstB_congr hO hE hW b (by omega), ← bgn_congr hE b (by omega), ← hE b (by omega)]
    exact fre_congr hw.1 (fun k _ hk => hO k (by omega))
theorem bix_congr (hE : ∀ b, b < bc → e b = e' b) (k : Nat) : ∀ b, b ≤ bc → bix e k b = bix e' k b
  | 0, _ => rfl
  | b + 1, hb => by
    show (if e b ≤ (k : Int) then bix e k b + 1 else bix e k b) = (if e' b ≤ (k : Int) then bix e' k b + 1 else bix e' k b)
    rw [bix_congr hE k b (by omega), hE b (by omega)]
theorem bix_le (k : Nat) : ∀ b, bix e k b ≤ b
  | 0 => Nat.le_refl _
  | b + 1 => by
    have := bix_le k b
    unfold bix
    split <;> omega
theorem bix_in {c : Nat} (h : Pok c o e bc m) {k : Nat} (hk : k < m) : ∃ b, b < bc ∧ bix e k bc = b ∧ bgn e b ≤ k ∧ (k : Int) < e b := by
  have key : ∀ B, B ≤ bc → k < bgn e B → ∃ b, b < B ∧ bgn e b ≤ k ∧ (k : Int) < e b := by
    intro B
    induction B with
    | zero => intro _ hz; exact absurd hz (Nat.not_lt_zero _)
    | succ B ih =>
      intro hB hz
      rw [bgn_succ] at hz
      by_cases q : k < bgn e B
      · obtain ⟨b, b1, b2, b3⟩ := ih (by omega) q
        exact ⟨b, by omega, b2, b3⟩
      · exact ⟨B, by omega, by omega, by omega⟩
  obtain ⟨b, b1, b2, b3⟩ := key bc (Nat.le_refl _) (by rw [h.2.2.2.2.1]; exact hk)
  exact ⟨b, b1, bix_at h b2 b3 bc (by omega) (Nat.le_refl _), b2, b3⟩
theorem f0B_congr (hO : ∀ k, k < m → o k = o' k) (hE : ∀ b, b < bc → e b = e' b) (hW : BtW e bc m) : ∀ b, b < bc → f0B S o e b = f0B S o' e' b := fun b hb => by
  have hw := hW b hb
  unfold f0B
  rw [frB_congr hO hE hW b (by omega), lstB_congr hO hE hW b (by omega), ← bgn_congr hE b (by omega), ← hE b hb]
  exact fst0_congr hw.1 (fun k _ hk => hO k (by omega))
theorem cmK_congr {c : Nat} (h : Pok c o e bc m) (hO : ∀ k, k < m → o k = o' k) (hE : ∀ b, b < bc → e b = e' b) {k : Nat} (hk : k < m) : cmK S o e bc k = cmK S o' e' bc k := by
  have hW := h.btw
  obtain ⟨b, b1, b2, b3, b4⟩ := bix_in h hk
  have hw := hW b b1
  unfold cmK
  rw [← bix_congr hE k bc (Nat.le_refl _), b2, frB_congr hO hE hW (b + 1) (by omega), f0B_congr hO hE hW b b1, ← bgn_congr hE b (by omega), ptm_congr (o' := o') (k - bgn e b + 1) (fun i hi => hO _ (by omega))]
theorem cstK_congr {c : Nat} (h : Pok c o e bc m) (hO : ∀ k, k < m → o k = o' k) (hE : ∀ b, b < bc → e b = e' b) : ∀ i, i ≤ m → cstK S o e bc i = cstK S o' e' bc i
  | 0, _ => rfl
  | i + 1, hi => by
    show jn S (cstK S o e bc i) (pen S (jb o i) (cmK S o e bc i)) = jn S (cstK S o' e' bc i) (pen S (jb o' i) (cmK S o' e' bc i))
    rw [cstK_congr h hO hE i (by omega), jb_congr (hO i (by omega)), cmK_congr h hO hE (by omega)]
theorem costP_congr {c : Nat} (h : Pok c o e bc m) (hO : ∀ k, k < m → o k = o' k) (hE : ∀ b, b < bc → e b = e' b) : costP S o e bc m = costP S o' e' bc m := by
  unfold costP
  rw [cstK_congr h hO hE m (Nat.le_refl _)]
end CONG
theorem grB_congr {g g' : Nat → Int} : ∀ i, (∀ k, k < i → g k = g' k) → grB g i = grB g' i
  | 0, _ => rfl
  | i + 1, h => by
    show (if i = 0 ∨ g i ≠ g (i - 1) then grB g i + 1 else grB g i) = (if i = 0 ∨ g' i ≠ g' (i - 1) then grB g' i + 1 else grB g' i)
    rw [grB_congr i (fun k hk => h k (by omega)), h i (by omega), h (i - 1) (by omega)]
theorem grE_congr {g g' e e' : Nat → Int} : ∀ i, (∀ k, k < i → g k = g' k) → ∀ b, b < grB g i → grE g e i b = grE g' e' i b
  | 0, _, b, hb => absurd hb (Nat.not_lt_zero _)
  | i + 1, h, b, hb => by
    have e1 := grB_congr (i + 1) h
    show upz (grE g e i) (grB g (i + 1) - 1) ((i : Int) + 1) b = upz (grE g' e' i) (grB g' (i + 1) - 1) ((i : Int) + 1) b
    rw [← e1]
    by_cases z : b = grB g (i + 1) - 1
    · rw [z, upz_eq, upz_eq]
    · rw [upz_ne z, upz_ne z]
      have : grB g (i + 1) ≤ grB g i + 1 := by
        show (if i = 0 ∨ g i ≠ g (i - 1) then grB g i + 1 else grB g i) ≤ _
        split <;> omega
      exact grE_congr i (fun k hk => h k (by omega)) b (by omega)
/-- what m places cost when they are grouped by family -/
def sqM (S : Shp) (o : Nat → Int) (m : Nat) : Int := costP S o (grE (fmG S o) (fun _ => 0) m) (grB (fmG S o) m) m
theorem sqM_eq {S : Shp} {o o' e : Nat → Int} {m : Nat} (hm : m ≤ 8) (h : Sqm S.cnt m o) (hO : ∀ k, k < m → o k = o' k) : costP S o (grE (fmG S o) e m) (grB (fmG S o) m) m = sqM S o' m := by
  have hg : ∀ k, k < m → fmG S o k = fmG S o' k := fun k hk => by unfold fmG; rw [hO k hk]
  unfold sqM
  rw [← grB_congr m hg]
  exact costP_congr (h.pok hm (fmG S o) e) hO (grE_congr m hg)
