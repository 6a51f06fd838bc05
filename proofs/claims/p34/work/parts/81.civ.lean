/-! civil time does not go back while the clock goes on -/
def smB (i : Nat) : Int := ((i : Int) + 1) * 86400000000 - 20000000000
def pt (i : Nat) (R : Int) : Int := if R - smB i < 0 then 0 else if R - smB i < 20000000000 then (R - smB i) / 20000 else 1000000
def sP : Nat → Int → Int
  | 0, _ => 0
  | n + 1, R => sP n R + pt n R
def sG (g : Nat → Int) : Nat → Int → Int
  | 0, _ => 0
  | n + 1, R => sG g n R + g n * pt n R
theorem pt_rng {i : Nat} {R : Int} : 0 ≤ pt i R ∧ pt i R ≤ 1000000 := by
  unfold pt
  generalize R - smB i = k
  by_cases c1 : k < 0
  · rw [if_pos c1]; decide
  · rw [if_neg c1]
    by_cases c2 : k < 20000000000
    · rw [if_pos c2]; omega
    · rw [if_neg c2]; decide
theorem pt_mono {i : Nat} {R R' : Int} (h : R ≤ R') : pt i R ≤ pt i R' ∧ pt i R' - pt i R ≤ R' - R := by
  unfold pt
  have e : R' - smB i = (R - smB i) + (R' - R) := by omega
  rw [e]
  generalize R - smB i = k
  have hd : 0 ≤ R' - R := by omega
  generalize R' - R = d at hd ⊢
  by_cases c1 : k < 0
  · rw [if_pos c1]
    by_cases c2 : k + d < 0
    · rw [if_pos c2]; omega
    · rw [if_neg c2]
      by_cases c3 : k + d < 20000000000
      · rw [if_pos c3]; omega
      · rw [if_neg c3]; omega
  · rw [if_neg c1, if_neg (show ¬ k + d < 0 by omega)]
    by_cases c2 : k < 20000000000
    · rw [if_pos c2]
      by_cases c3 : k + d < 20000000000
      · rw [if_pos c3]; omega
      · rw [if_neg c3]; omega
    · rw [if_neg c2, if_neg (show ¬ k + d < 20000000000 by omega)]; omega
theorem pt_full {i n : Nat} {R : Int} (h : i < n) (hR : smB n ≤ R) : pt i R = 1000000 := by
  unfold smB at hR
  have h1 : ¬ R - smB i < 0 := by unfold smB; omega
  have h2 : ¬ R - smB i < 20000000000 := by unfold smB; omega
  unfold pt
  rw [if_neg h1, if_neg h2]
theorem sP_full {n : Nat} {R : Int} (hR : smB n ≤ R) : ∀ m, m ≤ n → sP m R = 1000000 * (m : Int)
  | 0, _ => rfl
  | m + 1, h => by
    rw [sP, sP_full hR m (by omega), pt_full (n := n) (by omega) hR]
    push_cast; omega
theorem pt_low {i : Nat} {R : Int} (h : R ≤ smB i) : pt i R = 0 := by
  unfold pt
  by_cases c : R - smB i < 0
  · rw [if_pos c]
  · rw [if_neg c]
    have : R - smB i = 0 := by omega
    rw [this]; decide
theorem sP_lip : ∀ (n : Nat) {R R' : Int}, R ≤ R' → sP n R' - sP n R ≤ R' - R
  | 0, R, R', h => by show (0 : Int) - 0 ≤ _; omega
  | n + 1, R, R', h => by
    rw [sP, sP]
    by_cases c1 : R' ≤ smB n
    · rw [pt_low c1, pt_low (by omega)]
      have := sP_lip n h; omega
    · by_cases c2 : smB n ≤ R
      · rw [sP_full (n := n) (by omega) n (Nat.le_refl n), sP_full (n := n) c2 n (Nat.le_refl n)]
        have := (pt_mono (i := n) h).2; omega
      · have h1 := sP_lip n (R := R) (R' := smB n) (by omega)
        have h2 := (pt_mono (i := n) (R := smB n) (R' := R') (by omega)).2
        rw [sP_full (n := n) (R := R') (by omega) n (Nat.le_refl n)]
        rw [sP_full (n := n) (R := smB n) (Int.le_refl _) n (Nat.le_refl n)] at h1
        rw [pt_low (i := n) (R := smB n) (Int.le_refl _)] at h2
        rw [pt_low (i := n) (R := R) (by omega)]
        omega
theorem sG_low {g : Nat → Int} (hg : ∀ i, g i = -1 ∨ g i = 0 ∨ g i = 1) {R R' : Int} (h : R ≤ R') : ∀ n, -(sP n R' - sP n R) ≤ sG g n R' - sG g n R
  | 0 => by show -((0 : Int) - 0) ≤ 0 - 0; omega
  | n + 1 => by
    have ih := sG_low hg h n
    have hm := (pt_mono (i := n) h).1
    rw [sG, sG, sP, sP]
    rcases hg n with e | e | e <;> rw [e] <;> omega
theorem sG_rng {g : Nat → Int} (hg : ∀ i, g i = -1 ∨ g i = 0 ∨ g i = 1) {R : Int} : ∀ n : Nat, -(1000000 * (n : Int)) ≤ sG g n R ∧ sG g n R ≤ 1000000 * (n : Int)
  | 0 => by show -(1000000 * ((0 : Nat) : Int)) ≤ 0 ∧ 0 ≤ 1000000 * ((0 : Nat) : Int); omega
  | n + 1 => by
    have ih := sG_rng hg (R := R) n
    have hp := pt_rng (i := n) (R := R)
    rw [sG]
    push_cast
    rcases hg n with e | e | e <;> rw [e] <;> omega
theorem cI_mono {g : Nat → Int} (hg : ∀ i, g i = -1 ∨ g i = 0 ∨ g i = 1) {R R' : Int} (h : R ≤ R') : R + sG g 21 R ≤ R' + sG g 21 R' := by
  have h1 := sG_low hg h 21
  have h2 := sP_lip 21 h
  omega
