/-! SETS OF JOBS as numbers, gaps, and what a set costs: the words of the search -/
theorem nt_shl1 (y : Nat) : ((1 : Int) * 2 ^ ((y : Int)).toNat) = ((2 ^ y : Nat) : Int) := by
  rw [Int.one_mul, Int.toNat_natCast]
  norm_cast
theorem nt_shl (x y : Nat) : ((x : Int) * 2 ^ ((y : Int)).toNat) = ((x * 2 ^ y : Nat) : Int) := by
  rw [Int.toNat_natCast]
  norm_cast
theorem nt_shr (x y : Nat) : ((x : Int) / 2 ^ ((y : Int)).toNat) = ((x / 2 ^ y : Nat) : Int) := by
  rw [Int.toNat_natCast]
  norm_cast
theorem nt_and (x y : Nat) : ((((x : Int)).toNat &&& ((y : Int)).toNat : Nat) : Int) = ((x &&& y : Nat) : Int) := rfl
theorem nt_or (x y : Nat) : ((((x : Int)).toNat ||| ((y : Int)).toNat : Nat) : Int) = ((x ||| y : Nat) : Int) := rfl
theorem nt_bit (x : Nat) : ((((x : Int)).toNat &&& ((1 : Int)).toNat : Nat) : Int) = ((x % 2 : Nat) : Int) := by
  show ((x &&& 1 : Nat) : Int) = _
  rw [Nat.and_one_is_mod]
theorem nt_andn (x y : Nat) : ((x : Int) - (((((x : Int)).toNat &&& ((y : Int)).toNat : Nat)) : Int)) = ((x - (x &&& y) : Nat) : Int) := by
  show (x : Int) - ((x &&& y : Nat) : Int) = _
  have : x &&& y ≤ x := Nat.and_le_left
  omega
theorem nt_shr_r (x y : Nat) : 0 ≤ ((x / 2 ^ y : Nat) : Int) ∧ ((x / 2 ^ y : Nat) : Int) ≤ (x : Int) := ⟨Int.natCast_nonneg _, Int.ofNat_le.mpr (Nat.div_le_self _ _)⟩
theorem nt_pow_r {j : Nat} (h : j ≤ 8) : 1 ≤ 2 ^ j ∧ 2 ^ j ≤ 256 := ⟨Nat.one_le_two_pow, Nat.pow_le_pow_right (by decide) h⟩
/-- family, ready time and work of the jobs of set s below j: 4 where there is none, -1 where families differ -/
def sfT (V : Nat → Nat → Int) (s : Nat) : Nat → Int
  | 0 => 4
  | j + 1 => if s / 2 ^ j % 2 = 1 then (if sfT V s j = 4 ∨ sfT V s j = V 0 j then V 0 j else -1) else sfT V s j
def srT (V : Nat → Nat → Int) (s : Nat) : Nat → Int
  | 0 => 0
  | j + 1 => if s / 2 ^ j % 2 = 1 then max (srT V s j) (V 2 j) else srT V s j
def swT (V : Nat → Nat → Int) (s : Nat) : Nat → Int
  | 0 => 0
  | j + 1 => if s / 2 ^ j % 2 = 1 then swT V s j + V 1 j else swT V s j
def gapS (S : Shp) (r t : Nat) : Int := if S.wh = 1 then S.T r t else if r = t + 1 then 0 else S.T r t
def lgTo (S : Shp) (f : Nat) : Nat → Int
  | 0 => 60
  | j + 1 => if S.V 0 j = (f : Int) then lgTo S f j else min (lgTo S f j) (gapS S (S.V 0 j + 1).toNat f)
def endS (S : Shp) (s : Nat) (last free : Int) : Int := max ((if S.er = 1 then free else max free (srT S.V s S.cnt)) + gapS S (last + 1).toNat (sfT S.V s S.cnt).toNat) (srT S.V s S.cnt) + swT S.V s S.cnt
def smT (S : Shp) (s : Nat) (en sum : Int) : Nat → Int
  | 0 => sum
  | j + 1 => if s / 2 ^ j % 2 = 1 then jn S (smT S s en sum j) (pen S j en) else smT S s en sum j
theorem gapS_r {S : Shp} (hT : Tok S.T) (r t : Nat) : 0 ≤ gapS S r t ∧ gapS S r t ≤ 60 := by
  have := hT r t
  unfold gapS
  split
  · omega
  · split <;> omega
theorem lgTo_r {S : Shp} (hT : Tok S.T) (f : Nat) : ∀ j, 0 ≤ lgTo S f j ∧ lgTo S f j ≤ 60
  | 0 => by unfold lgTo; omega
  | j + 1 => by
    have h1 := lgTo_r hT f j
    have h2 := gapS_r hT (S.V 0 j + 1).toNat f
    unfold lgTo
    split <;> omega
theorem sfT_r {V : Nat → Nat → Int} (hV : Vok V) (s : Nat) : ∀ j, -1 ≤ sfT V s j ∧ sfT V s j ≤ 4
  | 0 => by unfold sfT; omega
  | j + 1 => by
    have h1 := sfT_r hV s j
    have h2 := hV 0 j
    unfold sfT
    split
    · split <;> omega
    · omega
theorem srT_r {V : Nat → Nat → Int} (hV : Vok V) (s : Nat) : ∀ j, 0 ≤ srT V s j ∧ srT V s j ≤ 300
  | 0 => by unfold srT; omega
  | j + 1 => by
    have h1 := srT_r hV s j
    have h2 := hV 2 j
    unfold srT
    split <;> omega
theorem swT_r {V : Nat → Nat → Int} (hV : Vok V) (s : Nat) : ∀ j, 0 ≤ swT V s j ∧ swT V s j ≤ 50 * j
  | 0 => by unfold swT; omega
  | j + 1 => by
    have h1 := swT_r hV s j
    have h2 := hV 1 j
    unfold swT
    split <;> omega
theorem pen_r {S : Shp} (hV : Vok S.V) (j : Nat) {C : Int} (hC : 0 ≤ C ∧ C ≤ 100000) : -500 ≤ pen S j C ∧ pen S j C ≤ 100000000000 := penz_le hV hC
theorem smT_r {S : Shp} (hV : Vok S.V) {s : Nat} {en sum lo hi : Int} (he : 0 ≤ en ∧ en ≤ 100000) (hs : lo ≤ sum ∧ sum ≤ hi) (hh : 0 ≤ hi) : ∀ j, lo - 500 * j ≤ smT S s en sum j ∧ smT S s en sum j ≤ hi + 100000000000 * j
  | 0 => by unfold smT; omega
  | j + 1 => by
    have h1 := smT_r hV (s := s) he hs hh j
    have h2 := pen_r hV j he
    have h3 := jn_r (S := S) h1 h2 (by omega) (by omega) (by omega)
    unfold smT
    split <;> omega
/-- what the search object's rows hold of the shop -/
def Gok (S : Shp) (G : Nat → Nat → Int) (lg : Nat → Int) : Prop := (∀ r t, r < 5 → t < 4 → G r t = gapS S r t) ∧ ∀ f, f < 4 → lg f = lgTo S f S.cnt
