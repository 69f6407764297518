/-! small whole numbers as ints -/
def iZ (z : Int) : Int32 := Int32.ofInt z
theorem iZ_nat (n : Nat) : iZ (n : Int) = nI n := by
  show Int32.ofInt (n : Int) = Int32.ofNat n
  exact Int32.ofInt_eq_ofNat
theorem iZ_tab : ∀ k : Nat, k < 256 → (Int32.ofInt ((k : Int) - 128)).toInt = (k : Int) - 128 ∧ (Int32.ofInt ((k : Int) - 128)).toInt8.toInt32 = Int32.ofInt ((k : Int) - 128) := by decide +kernel
theorem iZ_at {z : Int} (h1 : -128 ≤ z) (h2 : z ≤ 127) : (iZ z).toInt = z ∧ (iZ z).toInt8.toInt32 = iZ z := by
  obtain ⟨k, hk⟩ : ∃ k : Nat, z = (k : Int) - 128 := ⟨(z + 128).toNat, by omega⟩
  subst hk
  exact iZ_tab k (by omega)
theorem iZ_toInt {z : Int} (h1 : -128 ≤ z) (h2 : z ≤ 127) : (iZ z).toInt = z := (iZ_at h1 h2).1
theorem iZ_byte {z : Int} (h1 : -128 ≤ z) (h2 : z ≤ 127) : (iZ z).toInt8.toInt32 = iZ z := (iZ_at h1 h2).2
theorem iZ_nar {z : Int} (h1 : -128 ≤ z) (h2 : z ≤ 127) : vp_nar .byte (iZ z) = iZ z := by
  rw [vp_nar_byte]
  exact iZ_byte h1 h2
theorem iZ_lt {a b : Int} (a1 : -128 ≤ a) (a2 : a ≤ 127) (b1 : -128 ≤ b) (b2 : b ≤ 127) : iZ a < iZ b ↔ a < b := by
  rw [Int32.lt_iff_toInt_lt, iZ_toInt a1 a2, iZ_toInt b1 b2]
theorem iZ_inj {a b : Int} (a1 : -128 ≤ a) (a2 : a ≤ 127) (b1 : -128 ≤ b) (b2 : b ≤ 127) : iZ a = iZ b ↔ a = b := by
  rw [← Int32.toInt_inj, iZ_toInt a1 a2, iZ_toInt b1 b2]
theorem iZ_add (a b : Int) : iZ a + iZ b = iZ (a + b) := (Int32.ofInt_add a b).symm
theorem iZ_neg (a : Int) : -iZ a = iZ (-a) := (Int32.ofInt_neg a).symm
theorem iZ_m1 : iZ (-1) = (-1 : Int32) := by decide +kernel
/-- an end as the programs hold it: 8 is the ground -/
def og (c : Nat) : Int32 := if c = 8 then -1 else nI c
theorem og_8 : og 8 = -1 := rfl
theorem og_lt {c : Nat} (h : c < 8) : og c = nI c := if_neg (by omega)
theorem og_tab : ∀ a, a < 9 → ∀ b, b < 9 → (og a = og b ↔ a = b) := by decide +kernel
theorem og_inj {a b : Nat} (ha : a ≤ 8) (hb : b ≤ 8) : og a = og b ↔ a = b := og_tab a (by omega) b (by omega)
theorem og_m1 {a : Nat} (ha : a ≤ 8) : og a = -1 ↔ a = 8 := by
  have h := og_inj ha (Nat.le_refl 8)
  rw [og_8] at h
  exact h
