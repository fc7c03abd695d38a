/-! the class reads the same jobs as the model -/
theorem jm_0 {tx : Int → Int} {ln s : Int} : jm tx ln s 0 ↔ s + 1 < ln ∧ tx s = 112 ∧ tx (s + 1) = 32 := by
  constructor
  · intro h
    have h0 := h 0 (by decide) (by decide +kernel)
    have h1 := h 1 (by decide) (by decide +kernel)
    rw [Int.add_zero] at h0
    exact ⟨by omega, h0.2.trans (by decide +kernel), h1.2.trans (by decide +kernel)⟩
  · rintro ⟨a, b0, b1⟩ i i0 i1
    have e : jl 0 = 2 := by decide +kernel
    rcases (show i = 0 ∨ i = 1 by omega) with y | y <;> subst y
    · exact ⟨by omega, by rw [Int.add_zero, b0]; decide +kernel⟩
    · exact ⟨by omega, by rw [b1]; decide +kernel⟩
theorem jm_1 {tx : Int → Int} {ln s : Int} : jm tx ln s 1 ↔ s + 1 < ln ∧ tx s = 99 ∧ tx (s + 1) = 32 := by
  constructor
  · intro h
    have h0 := h 0 (by decide) (by decide +kernel)
    have h1 := h 1 (by decide) (by decide +kernel)
    rw [Int.add_zero] at h0
    exact ⟨by omega, h0.2.trans (by decide +kernel), h1.2.trans (by decide +kernel)⟩
  · rintro ⟨a, b0, b1⟩ i i0 i1
    have e : jl 1 = 2 := by decide +kernel
    rcases (show i = 0 ∨ i = 1 by omega) with y | y <;> subst y
    · exact ⟨by omega, by rw [Int.add_zero, b0]; decide +kernel⟩
    · exact ⟨by omega, by rw [b1]; decide +kernel⟩
theorem jm_2 {tx : Int → Int} {ln s : Int} : jm tx ln s 2 ↔ s + 4 < ln ∧ tx s = 98 ∧ tx (s + 1) = 111 ∧ tx (s + 2) = 116 ∧ tx (s + 3) = 104 ∧ tx (s + 4) = 32 := by
  constructor
  · intro h
    have h0 := h 0 (by decide) (by decide +kernel)
    have h1 := h 1 (by decide) (by decide +kernel)
    have h2 := h 2 (by decide) (by decide +kernel)
    have h3 := h 3 (by decide) (by decide +kernel)
    have h4 := h 4 (by decide) (by decide +kernel)
    rw [Int.add_zero] at h0
    exact ⟨by omega, h0.2.trans (by decide +kernel), h1.2.trans (by decide +kernel), h2.2.trans (by decide +kernel), h3.2.trans (by decide +kernel), h4.2.trans (by decide +kernel)⟩
  · rintro ⟨a, b0, b1, b2, b3, b4⟩ i i0 i1
    have e : jl 2 = 5 := by decide +kernel
    rcases (show i = 0 ∨ i = 1 ∨ i = 2 ∨ i = 3 ∨ i = 4 by omega) with y | y | y | y | y <;> subst y
    · exact ⟨by omega, by rw [Int.add_zero, b0]; decide +kernel⟩
    · exact ⟨by omega, by rw [b1]; decide +kernel⟩
    · exact ⟨by omega, by rw [b2]; decide +kernel⟩
    · exact ⟨by omega, by rw [b3]; decide +kernel⟩
    · exact ⟨by omega, by rw [b4]; decide +kernel⟩
theorem jm_3 {tx : Int → Int} {ln s : Int} : jm tx ln s 3 ↔ s + 6 < ln ∧ tx s = 103 ∧ tx (s + 1) = 97 ∧ tx (s + 2) = 116 ∧ tx (s + 3) = 104 ∧ tx (s + 4) = 101 ∧ tx (s + 5) = 114 ∧ tx (s + 6) = 32 := by
  constructor
  · intro h
    have h0 := h 0 (by decide) (by decide +kernel)
    have h1 := h 1 (by decide) (by decide +kernel)
    have h2 := h 2 (by decide) (by decide +kernel)
    have h3 := h 3 (by decide) (by decide +kernel)
    have h4 := h 4 (by decide) (by decide +kernel)
    have h5 := h 5 (by decide) (by decide +kernel)
    have h6 := h 6 (by decide) (by decide +kernel)
    rw [Int.add_zero] at h0
    exact ⟨by omega, h0.2.trans (by decide +kernel), h1.2.trans (by decide +kernel), h2.2.trans (by decide +kernel), h3.2.trans (by decide +kernel), h4.2.trans (by decide +kernel), h5.2.trans (by decide +kernel), h6.2.trans (by decide +kernel)⟩
  · rintro ⟨a, b0, b1, b2, b3, b4, b5, b6⟩ i i0 i1
    have e : jl 3 = 7 := by decide +kernel
    rcases (show i = 0 ∨ i = 1 ∨ i = 2 ∨ i = 3 ∨ i = 4 ∨ i = 5 ∨ i = 6 by omega) with y | y | y | y | y | y | y <;> subst y
    · exact ⟨by omega, by rw [Int.add_zero, b0]; decide +kernel⟩
    · exact ⟨by omega, by rw [b1]; decide +kernel⟩
    · exact ⟨by omega, by rw [b2]; decide +kernel⟩
    · exact ⟨by omega, by rw [b3]; decide +kernel⟩
    · exact ⟨by omega, by rw [b4]; decide +kernel⟩
    · exact ⟨by omega, by rw [b5]; decide +kernel⟩
    · exact ⟨by omega, by rw [b6]; decide +kernel⟩
theorem jm_4 {tx : Int → Int} {ln s : Int} : jm tx ln s 4 ↔ s + 7 < ln ∧ tx s = 115 ∧ tx (s + 1) = 116 ∧ tx (s + 2) = 97 ∧ tx (s + 3) = 112 ∧ tx (s + 4) = 108 ∧ tx (s + 5) = 101 ∧ tx (s + 6) = 49 ∧ tx (s + 7) = 32 := by
  constructor
  · intro h
    have h0 := h 0 (by decide) (by decide +kernel)
    have h1 := h 1 (by decide) (by decide +kernel)
    have h2 := h 2 (by decide) (by decide +kernel)
    have h3 := h 3 (by decide) (by decide +kernel)
    have h4 := h 4 (by decide) (by decide +kernel)
    have h5 := h 5 (by decide) (by decide +kernel)
    have h6 := h 6 (by decide) (by decide +kernel)
    have h7 := h 7 (by decide) (by decide +kernel)
    rw [Int.add_zero] at h0
    exact ⟨by omega, h0.2.trans (by decide +kernel), h1.2.trans (by decide +kernel), h2.2.trans (by decide +kernel), h3.2.trans (by decide +kernel), h4.2.trans (by decide +kernel), h5.2.trans (by decide +kernel), h6.2.trans (by decide +kernel), h7.2.trans (by decide +kernel)⟩
  · rintro ⟨a, b0, b1, b2, b3, b4, b5, b6, b7⟩ i i0 i1
    have e : jl 4 = 8 := by decide +kernel
    rcases (show i = 0 ∨ i = 1 ∨ i = 2 ∨ i = 3 ∨ i = 4 ∨ i = 5 ∨ i = 6 ∨ i = 7 by omega) with y | y | y | y | y | y | y | y <;> subst y
    · exact ⟨by omega, by rw [Int.add_zero, b0]; decide +kernel⟩
    · exact ⟨by omega, by rw [b1]; decide +kernel⟩
    · exact ⟨by omega, by rw [b2]; decide +kernel⟩
    · exact ⟨by omega, by rw [b3]; decide +kernel⟩
    · exact ⟨by omega, by rw [b4]; decide +kernel⟩
    · exact ⟨by omega, by rw [b5]; decide +kernel⟩
    · exact ⟨by omega, by rw [b6]; decide +kernel⟩
    · exact ⟨by omega, by rw [b7]; decide +kernel⟩
theorem jm_5 {tx : Int → Int} {ln s : Int} : jm tx ln s 5 ↔ s + 7 < ln ∧ tx s = 115 ∧ tx (s + 1) = 116 ∧ tx (s + 2) = 97 ∧ tx (s + 3) = 112 ∧ tx (s + 4) = 108 ∧ tx (s + 5) = 101 ∧ tx (s + 6) = 50 ∧ tx (s + 7) = 32 := by
  constructor
  · intro h
    have h0 := h 0 (by decide) (by decide +kernel)
    have h1 := h 1 (by decide) (by decide +kernel)
    have h2 := h 2 (by decide) (by decide +kernel)
    have h3 := h 3 (by decide) (by decide +kernel)
    have h4 := h 4 (by decide) (by decide +kernel)
    have h5 := h 5 (by decide) (by decide +kernel)
    have h6 := h 6 (by decide) (by decide +kernel)
    have h7 := h 7 (by decide) (by decide +kernel)
    rw [Int.add_zero] at h0
    exact ⟨by omega, h0.2.trans (by decide +kernel), h1.2.trans (by decide +kernel), h2.2.trans (by decide +kernel), h3.2.trans (by decide +kernel), h4.2.trans (by decide +kernel), h5.2.trans (by decide +kernel), h6.2.trans (by decide +kernel), h7.2.trans (by decide +kernel)⟩
  · rintro ⟨a, b0, b1, b2, b3, b4, b5, b6, b7⟩ i i0 i1
    have e : jl 5 = 8 := by decide +kernel
    rcases (show i = 0 ∨ i = 1 ∨ i = 2 ∨ i = 3 ∨ i = 4 ∨ i = 5 ∨ i = 6 ∨ i = 7 by omega) with y | y | y | y | y | y | y | y <;> subst y
    · exact ⟨by omega, by rw [Int.add_zero, b0]; decide +kernel⟩
    · exact ⟨by omega, by rw [b1]; decide +kernel⟩
    · exact ⟨by omega, by rw [b2]; decide +kernel⟩
    · exact ⟨by omega, by rw [b3]; decide +kernel⟩
    · exact ⟨by omega, by rw [b4]; decide +kernel⟩
    · exact ⟨by omega, by rw [b5]; decide +kernel⟩
    · exact ⟨by omega, by rw [b6]; decide +kernel⟩
    · exact ⟨by omega, by rw [b7]; decide +kernel⟩
theorem jm_6 {tx : Int → Int} {ln s : Int} : jm tx ln s 6 ↔ s + 2 < ln ∧ tx s = 65 ∧ tx (s + 1) = 53 ∧ tx (s + 2) = 32 := by
  constructor
  · intro h
    have h0 := h 0 (by decide) (by decide +kernel)
    have h1 := h 1 (by decide) (by decide +kernel)
    have h2 := h 2 (by decide) (by decide +kernel)
    rw [Int.add_zero] at h0
    exact ⟨by omega, h0.2.trans (by decide +kernel), h1.2.trans (by decide +kernel), h2.2.trans (by decide +kernel)⟩
  · rintro ⟨a, b0, b1, b2⟩ i i0 i1
    have e : jl 6 = 3 := by decide +kernel
    rcases (show i = 0 ∨ i = 1 ∨ i = 2 by omega) with y | y | y <;> subst y
    · exact ⟨by omega, by rw [Int.add_zero, b0]; decide +kernel⟩
    · exact ⟨by omega, by rw [b1]; decide +kernel⟩
    · exact ⟨by omega, by rw [b2]; decide +kernel⟩
theorem jm_7 {tx : Int → Int} {ln s : Int} : jm tx ln s 7 ↔ s + 2 < ln ∧ tx s = 65 ∧ tx (s + 1) = 52 ∧ tx (s + 2) = 32 := by
  constructor
  · intro h
    have h0 := h 0 (by decide) (by decide +kernel)
    have h1 := h 1 (by decide) (by decide +kernel)
    have h2 := h 2 (by decide) (by decide +kernel)
    rw [Int.add_zero] at h0
    exact ⟨by omega, h0.2.trans (by decide +kernel), h1.2.trans (by decide +kernel), h2.2.trans (by decide +kernel)⟩
  · rintro ⟨a, b0, b1, b2⟩ i i0 i1
    have e : jl 7 = 3 := by decide +kernel
    rcases (show i = 0 ∨ i = 1 ∨ i = 2 by omega) with y | y | y <;> subst y
    · exact ⟨by omega, by rw [Int.add_zero, b0]; decide +kernel⟩
    · exact ⟨by omega, by rw [b1]; decide +kernel⟩
    · exact ⟨by omega, by rw [b2]; decide +kernel⟩
theorem jm_8 {tx : Int → Int} {ln s : Int} : jm tx ln s 8 ↔ s + 2 < ln ∧ tx s = 65 ∧ tx (s + 1) = 51 ∧ tx (s + 2) = 32 := by
  constructor
  · intro h
    have h0 := h 0 (by decide) (by decide +kernel)
    have h1 := h 1 (by decide) (by decide +kernel)
    have h2 := h 2 (by decide) (by decide +kernel)
    rw [Int.add_zero] at h0
    exact ⟨by omega, h0.2.trans (by decide +kernel), h1.2.trans (by decide +kernel), h2.2.trans (by decide +kernel)⟩
  · rintro ⟨a, b0, b1, b2⟩ i i0 i1
    have e : jl 8 = 3 := by decide +kernel
    rcases (show i = 0 ∨ i = 1 ∨ i = 2 by omega) with y | y | y <;> subst y
    · exact ⟨by omega, by rw [Int.add_zero, b0]; decide +kernel⟩
    · exact ⟨by omega, by rw [b1]; decide +kernel⟩
    · exact ⟨by omega, by rw [b2]; decide +kernel⟩
theorem jm_9 {tx : Int → Int} {ln s : Int} : jm tx ln s 9 ↔ s + 6 < ln ∧ tx s = 108 ∧ tx (s + 1) = 101 ∧ tx (s + 2) = 116 ∧ tx (s + 3) = 116 ∧ tx (s + 4) = 101 ∧ tx (s + 5) = 114 ∧ tx (s + 6) = 32 := by
  constructor
  · intro h
    have h0 := h 0 (by decide) (by decide +kernel)
    have h1 := h 1 (by decide) (by decide +kernel)
    have h2 := h 2 (by decide) (by decide +kernel)
    have h3 := h 3 (by decide) (by decide +kernel)
    have h4 := h 4 (by decide) (by decide +kernel)
    have h5 := h 5 (by decide) (by decide +kernel)
    have h6 := h 6 (by decide) (by decide +kernel)
    rw [Int.add_zero] at h0
    exact ⟨by omega, h0.2.trans (by decide +kernel), h1.2.trans (by decide +kernel), h2.2.trans (by decide +kernel), h3.2.trans (by decide +kernel), h4.2.trans (by decide +kernel), h5.2.trans (by decide +kernel), h6.2.trans (by decide +kernel)⟩
  · rintro ⟨a, b0, b1, b2, b3, b4, b5, b6⟩ i i0 i1
    have e : jl 9 = 7 := by decide +kernel
    rcases (show i = 0 ∨ i = 1 ∨ i = 2 ∨ i = 3 ∨ i = 4 ∨ i = 5 ∨ i = 6 by omega) with y | y | y | y | y | y | y <;> subst y
    · exact ⟨by omega, by rw [Int.add_zero, b0]; decide +kernel⟩
    · exact ⟨by omega, by rw [b1]; decide +kernel⟩
    · exact ⟨by omega, by rw [b2]; decide +kernel⟩
    · exact ⟨by omega, by rw [b3]; decide +kernel⟩
    · exact ⟨by omega, by rw [b4]; decide +kernel⟩
    · exact ⟨by omega, by rw [b5]; decide +kernel⟩
    · exact ⟨by omega, by rw [b6]; decide +kernel⟩
theorem jm_10 {tx : Int → Int} {ln s : Int} : jm tx ln s 10 ↔ s + 5 < ln ∧ tx s = 112 ∧ tx (s + 1) = 108 ∧ tx (s + 2) = 97 ∧ tx (s + 3) = 105 ∧ tx (s + 4) = 110 ∧ tx (s + 5) = 59 := by
  constructor
  · intro h
    have h0 := h 0 (by decide) (by decide +kernel)
    have h1 := h 1 (by decide) (by decide +kernel)
    have h2 := h 2 (by decide) (by decide +kernel)
    have h3 := h 3 (by decide) (by decide +kernel)
    have h4 := h 4 (by decide) (by decide +kernel)
    have h5 := h 5 (by decide) (by decide +kernel)
    rw [Int.add_zero] at h0
    exact ⟨by omega, h0.2.trans (by decide +kernel), h1.2.trans (by decide +kernel), h2.2.trans (by decide +kernel), h3.2.trans (by decide +kernel), h4.2.trans (by decide +kernel), h5.2.trans (by decide +kernel)⟩
  · rintro ⟨a, b0, b1, b2, b3, b4, b5⟩ i i0 i1
    have e : jl 10 = 6 := by decide +kernel
    rcases (show i = 0 ∨ i = 1 ∨ i = 2 ∨ i = 3 ∨ i = 4 ∨ i = 5 by omega) with y | y | y | y | y | y <;> subst y
    · exact ⟨by omega, by rw [Int.add_zero, b0]; decide +kernel⟩
    · exact ⟨by omega, by rw [b1]; decide +kernel⟩
    · exact ⟨by omega, by rw [b2]; decide +kernel⟩
    · exact ⟨by omega, by rw [b3]; decide +kernel⟩
    · exact ⟨by omega, by rw [b4]; decide +kernel⟩
    · exact ⟨by omega, by rw [b5]; decide +kernel⟩
theorem jm_11 {tx : Int → Int} {ln s : Int} : jm tx ln s 11 ↔ s + 5 < ln ∧ tx s = 116 ∧ tx (s + 1) = 104 ∧ tx (s + 2) = 105 ∧ tx (s + 3) = 99 ∧ tx (s + 4) = 107 ∧ tx (s + 5) = 59 := by
  constructor
  · intro h
    have h0 := h 0 (by decide) (by decide +kernel)
    have h1 := h 1 (by decide) (by decide +kernel)
    have h2 := h 2 (by decide) (by decide +kernel)
    have h3 := h 3 (by decide) (by decide +kernel)
    have h4 := h 4 (by decide) (by decide +kernel)
    have h5 := h 5 (by decide) (by decide +kernel)
    rw [Int.add_zero] at h0
    exact ⟨by omega, h0.2.trans (by decide +kernel), h1.2.trans (by decide +kernel), h2.2.trans (by decide +kernel), h3.2.trans (by decide +kernel), h4.2.trans (by decide +kernel), h5.2.trans (by decide +kernel)⟩
  · rintro ⟨a, b0, b1, b2, b3, b4, b5⟩ i i0 i1
    have e : jl 11 = 6 := by decide +kernel
    rcases (show i = 0 ∨ i = 1 ∨ i = 2 ∨ i = 3 ∨ i = 4 ∨ i = 5 by omega) with y | y | y | y | y | y <;> subst y
    · exact ⟨by omega, by rw [Int.add_zero, b0]; decide +kernel⟩
    · exact ⟨by omega, by rw [b1]; decide +kernel⟩
    · exact ⟨by omega, by rw [b2]; decide +kernel⟩
    · exact ⟨by omega, by rw [b3]; decide +kernel⟩
    · exact ⟨by omega, by rw [b4]; decide +kernel⟩
    · exact ⟨by omega, by rw [b5]; decide +kernel⟩
theorem jm_12 {tx : Int → Int} {ln s : Int} : jm tx ln s 12 ↔ s + 7 < ln ∧ tx s = 99 ∧ tx (s + 1) = 111 ∧ tx (s + 2) = 108 ∧ tx (s + 3) = 111 ∧ tx (s + 4) = 114 ∧ tx (s + 5) = 101 ∧ tx (s + 6) = 100 ∧ tx (s + 7) = 59 := by
  constructor
  · intro h
    have h0 := h 0 (by decide) (by decide +kernel)
    have h1 := h 1 (by decide) (by decide +kernel)
    have h2 := h 2 (by decide) (by decide +kernel)
    have h3 := h 3 (by decide) (by decide +kernel)
    have h4 := h 4 (by decide) (by decide +kernel)
    have h5 := h 5 (by decide) (by decide +kernel)
    have h6 := h 6 (by decide) (by decide +kernel)
    have h7 := h 7 (by decide) (by decide +kernel)
    rw [Int.add_zero] at h0
    exact ⟨by omega, h0.2.trans (by decide +kernel), h1.2.trans (by decide +kernel), h2.2.trans (by decide +kernel), h3.2.trans (by decide +kernel), h4.2.trans (by decide +kernel), h5.2.trans (by decide +kernel), h6.2.trans (by decide +kernel), h7.2.trans (by decide +kernel)⟩
  · rintro ⟨a, b0, b1, b2, b3, b4, b5, b6, b7⟩ i i0 i1
    have e : jl 12 = 8 := by decide +kernel
    rcases (show i = 0 ∨ i = 1 ∨ i = 2 ∨ i = 3 ∨ i = 4 ∨ i = 5 ∨ i = 6 ∨ i = 7 by omega) with y | y | y | y | y | y | y | y <;> subst y
    · exact ⟨by omega, by rw [Int.add_zero, b0]; decide +kernel⟩
    · exact ⟨by omega, by rw [b1]; decide +kernel⟩
    · exact ⟨by omega, by rw [b2]; decide +kernel⟩
    · exact ⟨by omega, by rw [b3]; decide +kernel⟩
    · exact ⟨by omega, by rw [b4]; decide +kernel⟩
    · exact ⟨by omega, by rw [b5]; decide +kernel⟩
    · exact ⟨by omega, by rw [b6]; decide +kernel⟩
    · exact ⟨by omega, by rw [b7]; decide +kernel⟩
theorem jm_13 {tx : Int → Int} {ln s : Int} : jm tx ln s 13 ↔ s + 4 < ln ∧ tx s = 102 ∧ tx (s + 1) = 105 ∧ tx (s + 2) = 108 ∧ tx (s + 3) = 109 ∧ tx (s + 4) = 59 := by
  constructor
  · intro h
    have h0 := h 0 (by decide) (by decide +kernel)
    have h1 := h 1 (by decide) (by decide +kernel)
    have h2 := h 2 (by decide) (by decide +kernel)
    have h3 := h 3 (by decide) (by decide +kernel)
    have h4 := h 4 (by decide) (by decide +kernel)
    rw [Int.add_zero] at h0
    exact ⟨by omega, h0.2.trans (by decide +kernel), h1.2.trans (by decide +kernel), h2.2.trans (by decide +kernel), h3.2.trans (by decide +kernel), h4.2.trans (by decide +kernel)⟩
  · rintro ⟨a, b0, b1, b2, b3, b4⟩ i i0 i1
    have e : jl 13 = 5 := by decide +kernel
    rcases (show i = 0 ∨ i = 1 ∨ i = 2 ∨ i = 3 ∨ i = 4 by omega) with y | y | y | y | y <;> subst y
    · exact ⟨by omega, by rw [Int.add_zero, b0]; decide +kernel⟩
    · exact ⟨by omega, by rw [b1]; decide +kernel⟩
    · exact ⟨by omega, by rw [b2]; decide +kernel⟩
    · exact ⟨by omega, by rw [b3]; decide +kernel⟩
    · exact ⟨by omega, by rw [b4]; decide +kernel⟩
theorem wm_0 {tx : Int → Int} {ln s : Int} : wm tx ln s 0 ↔ s + 3 < ln ∧ tx s = 98 ∧ tx (s + 1) = 111 ∧ tx (s + 2) = 116 ∧ tx (s + 3) = 104 := by
  constructor
  · intro h
    have h0 := h 0 (by decide) (by decide +kernel)
    have h1 := h 1 (by decide) (by decide +kernel)
    have h2 := h 2 (by decide) (by decide +kernel)
    have h3 := h 3 (by decide) (by decide +kernel)
    rw [Int.add_zero] at h0
    exact ⟨by omega, h0.2.trans (by decide +kernel), h1.2.trans (by decide +kernel), h2.2.trans (by decide +kernel), h3.2.trans (by decide +kernel)⟩
  · rintro ⟨a, b0, b1, b2, b3⟩ i i0 i1
    have e : wle 0 = 4 := by decide +kernel
    rcases (show i = 0 ∨ i = 1 ∨ i = 2 ∨ i = 3 by omega) with y | y | y | y <;> subst y
    · exact ⟨by omega, by rw [Int.add_zero, b0]; decide +kernel⟩
    · exact ⟨by omega, by rw [b1]; decide +kernel⟩
    · exact ⟨by omega, by rw [b2]; decide +kernel⟩
    · exact ⟨by omega, by rw [b3]; decide +kernel⟩
theorem wm_1 {tx : Int → Int} {ln s : Int} : wm tx ln s 1 ↔ s + 5 < ln ∧ tx s = 103 ∧ tx (s + 1) = 97 ∧ tx (s + 2) = 116 ∧ tx (s + 3) = 104 ∧ tx (s + 4) = 101 ∧ tx (s + 5) = 114 := by
  constructor
  · intro h
    have h0 := h 0 (by decide) (by decide +kernel)
    have h1 := h 1 (by decide) (by decide +kernel)
    have h2 := h 2 (by decide) (by decide +kernel)
    have h3 := h 3 (by decide) (by decide +kernel)
    have h4 := h 4 (by decide) (by decide +kernel)
    have h5 := h 5 (by decide) (by decide +kernel)
    rw [Int.add_zero] at h0
    exact ⟨by omega, h0.2.trans (by decide +kernel), h1.2.trans (by decide +kernel), h2.2.trans (by decide +kernel), h3.2.trans (by decide +kernel), h4.2.trans (by decide +kernel), h5.2.trans (by decide +kernel)⟩
  · rintro ⟨a, b0, b1, b2, b3, b4, b5⟩ i i0 i1
    have e : wle 1 = 6 := by decide +kernel
    rcases (show i = 0 ∨ i = 1 ∨ i = 2 ∨ i = 3 ∨ i = 4 ∨ i = 5 by omega) with y | y | y | y | y | y <;> subst y
    · exact ⟨by omega, by rw [Int.add_zero, b0]; decide +kernel⟩
    · exact ⟨by omega, by rw [b1]; decide +kernel⟩
    · exact ⟨by omega, by rw [b2]; decide +kernel⟩
    · exact ⟨by omega, by rw [b3]; decide +kernel⟩
    · exact ⟨by omega, by rw [b4]; decide +kernel⟩
    · exact ⟨by omega, by rw [b5]; decide +kernel⟩
theorem wm_2 {tx : Int → Int} {ln s : Int} : wm tx ln s 2 ↔ s + 5 < ln ∧ tx s = 115 ∧ tx (s + 1) = 116 ∧ tx (s + 2) = 97 ∧ tx (s + 3) = 112 ∧ tx (s + 4) = 108 ∧ tx (s + 5) = 101 := by
  constructor
  · intro h
    have h0 := h 0 (by decide) (by decide +kernel)
    have h1 := h 1 (by decide) (by decide +kernel)
    have h2 := h 2 (by decide) (by decide +kernel)
    have h3 := h 3 (by decide) (by decide +kernel)
    have h4 := h 4 (by decide) (by decide +kernel)
    have h5 := h 5 (by decide) (by decide +kernel)
    rw [Int.add_zero] at h0
    exact ⟨by omega, h0.2.trans (by decide +kernel), h1.2.trans (by decide +kernel), h2.2.trans (by decide +kernel), h3.2.trans (by decide +kernel), h4.2.trans (by decide +kernel), h5.2.trans (by decide +kernel)⟩
  · rintro ⟨a, b0, b1, b2, b3, b4, b5⟩ i i0 i1
    have e : wle 2 = 6 := by decide +kernel
    rcases (show i = 0 ∨ i = 1 ∨ i = 2 ∨ i = 3 ∨ i = 4 ∨ i = 5 by omega) with y | y | y | y | y | y <;> subst y
    · exact ⟨by omega, by rw [Int.add_zero, b0]; decide +kernel⟩
    · exact ⟨by omega, by rw [b1]; decide +kernel⟩
    · exact ⟨by omega, by rw [b2]; decide +kernel⟩
    · exact ⟨by omega, by rw [b3]; decide +kernel⟩
    · exact ⟨by omega, by rw [b4]; decide +kernel⟩
    · exact ⟨by omega, by rw [b5]; decide +kernel⟩
theorem wm_3 {tx : Int → Int} {ln s : Int} : wm tx ln s 3 ↔ s + 0 < ln ∧ tx s = 65 := by
  constructor
  · intro h
    have h0 := h 0 (by decide) (by decide +kernel)
    rw [Int.add_zero] at h0
    exact ⟨by omega, h0.2.trans (by decide +kernel)⟩
  · rintro ⟨a, b0⟩ i i0 i1
    have e : wle 3 = 1 := by decide +kernel
    obtain rfl : i = 0 := by omega
    · exact ⟨by omega, by rw [Int.add_zero, b0]; decide +kernel⟩
theorem wm_4 {tx : Int → Int} {ln s : Int} : wm tx ln s 4 ↔ s + 5 < ln ∧ tx s = 108 ∧ tx (s + 1) = 101 ∧ tx (s + 2) = 116 ∧ tx (s + 3) = 116 ∧ tx (s + 4) = 101 ∧ tx (s + 5) = 114 := by
  constructor
  · intro h
    have h0 := h 0 (by decide) (by decide +kernel)
    have h1 := h 1 (by decide) (by decide +kernel)
    have h2 := h 2 (by decide) (by decide +kernel)
    have h3 := h 3 (by decide) (by decide +kernel)
    have h4 := h 4 (by decide) (by decide +kernel)
    have h5 := h 5 (by decide) (by decide +kernel)
    rw [Int.add_zero] at h0
    exact ⟨by omega, h0.2.trans (by decide +kernel), h1.2.trans (by decide +kernel), h2.2.trans (by decide +kernel), h3.2.trans (by decide +kernel), h4.2.trans (by decide +kernel), h5.2.trans (by decide +kernel)⟩
  · rintro ⟨a, b0, b1, b2, b3, b4, b5⟩ i i0 i1
    have e : wle 4 = 6 := by decide +kernel
    rcases (show i = 0 ∨ i = 1 ∨ i = 2 ∨ i = 3 ∨ i = 4 ∨ i = 5 by omega) with y | y | y | y | y | y <;> subst y
    · exact ⟨by omega, by rw [Int.add_zero, b0]; decide +kernel⟩
    · exact ⟨by omega, by rw [b1]; decide +kernel⟩
    · exact ⟨by omega, by rw [b2]; decide +kernel⟩
    · exact ⟨by omega, by rw [b3]; decide +kernel⟩
    · exact ⟨by omega, by rw [b4]; decide +kernel⟩
    · exact ⟨by omega, by rw [b5]; decide +kernel⟩
theorem wm_5 {tx : Int → Int} {ln s : Int} : wm tx ln s 5 ↔ s + 4 < ln ∧ tx s = 112 ∧ tx (s + 1) = 108 ∧ tx (s + 2) = 97 ∧ tx (s + 3) = 105 ∧ tx (s + 4) = 110 := by
  constructor
  · intro h
    have h0 := h 0 (by decide) (by decide +kernel)
    have h1 := h 1 (by decide) (by decide +kernel)
    have h2 := h 2 (by decide) (by decide +kernel)
    have h3 := h 3 (by decide) (by decide +kernel)
    have h4 := h 4 (by decide) (by decide +kernel)
    rw [Int.add_zero] at h0
    exact ⟨by omega, h0.2.trans (by decide +kernel), h1.2.trans (by decide +kernel), h2.2.trans (by decide +kernel), h3.2.trans (by decide +kernel), h4.2.trans (by decide +kernel)⟩
  · rintro ⟨a, b0, b1, b2, b3, b4⟩ i i0 i1
    have e : wle 5 = 5 := by decide +kernel
    rcases (show i = 0 ∨ i = 1 ∨ i = 2 ∨ i = 3 ∨ i = 4 by omega) with y | y | y | y | y <;> subst y
    · exact ⟨by omega, by rw [Int.add_zero, b0]; decide +kernel⟩
    · exact ⟨by omega, by rw [b1]; decide +kernel⟩
    · exact ⟨by omega, by rw [b2]; decide +kernel⟩
    · exact ⟨by omega, by rw [b3]; decide +kernel⟩
    · exact ⟨by omega, by rw [b4]; decide +kernel⟩
theorem wm_6 {tx : Int → Int} {ln s : Int} : wm tx ln s 6 ↔ s + 4 < ln ∧ tx s = 116 ∧ tx (s + 1) = 104 ∧ tx (s + 2) = 105 ∧ tx (s + 3) = 99 ∧ tx (s + 4) = 107 := by
  constructor
  · intro h
    have h0 := h 0 (by decide) (by decide +kernel)
    have h1 := h 1 (by decide) (by decide +kernel)
    have h2 := h 2 (by decide) (by decide +kernel)
    have h3 := h 3 (by decide) (by decide +kernel)
    have h4 := h 4 (by decide) (by decide +kernel)
    rw [Int.add_zero] at h0
    exact ⟨by omega, h0.2.trans (by decide +kernel), h1.2.trans (by decide +kernel), h2.2.trans (by decide +kernel), h3.2.trans (by decide +kernel), h4.2.trans (by decide +kernel)⟩
  · rintro ⟨a, b0, b1, b2, b3, b4⟩ i i0 i1
    have e : wle 6 = 5 := by decide +kernel
    rcases (show i = 0 ∨ i = 1 ∨ i = 2 ∨ i = 3 ∨ i = 4 by omega) with y | y | y | y | y <;> subst y
    · exact ⟨by omega, by rw [Int.add_zero, b0]; decide +kernel⟩
    · exact ⟨by omega, by rw [b1]; decide +kernel⟩
    · exact ⟨by omega, by rw [b2]; decide +kernel⟩
    · exact ⟨by omega, by rw [b3]; decide +kernel⟩
    · exact ⟨by omega, by rw [b4]; decide +kernel⟩
theorem wm_7 {tx : Int → Int} {ln s : Int} : wm tx ln s 7 ↔ s + 6 < ln ∧ tx s = 99 ∧ tx (s + 1) = 111 ∧ tx (s + 2) = 108 ∧ tx (s + 3) = 111 ∧ tx (s + 4) = 114 ∧ tx (s + 5) = 101 ∧ tx (s + 6) = 100 := by
  constructor
  · intro h
    have h0 := h 0 (by decide) (by decide +kernel)
    have h1 := h 1 (by decide) (by decide +kernel)
    have h2 := h 2 (by decide) (by decide +kernel)
    have h3 := h 3 (by decide) (by decide +kernel)
    have h4 := h 4 (by decide) (by decide +kernel)
    have h5 := h 5 (by decide) (by decide +kernel)
    have h6 := h 6 (by decide) (by decide +kernel)
    rw [Int.add_zero] at h0
    exact ⟨by omega, h0.2.trans (by decide +kernel), h1.2.trans (by decide +kernel), h2.2.trans (by decide +kernel), h3.2.trans (by decide +kernel), h4.2.trans (by decide +kernel), h5.2.trans (by decide +kernel), h6.2.trans (by decide +kernel)⟩
  · rintro ⟨a, b0, b1, b2, b3, b4, b5, b6⟩ i i0 i1
    have e : wle 7 = 7 := by decide +kernel
    rcases (show i = 0 ∨ i = 1 ∨ i = 2 ∨ i = 3 ∨ i = 4 ∨ i = 5 ∨ i = 6 by omega) with y | y | y | y | y | y | y <;> subst y
    · exact ⟨by omega, by rw [Int.add_zero, b0]; decide +kernel⟩
    · exact ⟨by omega, by rw [b1]; decide +kernel⟩
    · exact ⟨by omega, by rw [b2]; decide +kernel⟩
    · exact ⟨by omega, by rw [b3]; decide +kernel⟩
    · exact ⟨by omega, by rw [b4]; decide +kernel⟩
    · exact ⟨by omega, by rw [b5]; decide +kernel⟩
    · exact ⟨by omega, by rw [b6]; decide +kernel⟩
theorem wm_8 {tx : Int → Int} {ln s : Int} : wm tx ln s 8 ↔ s + 3 < ln ∧ tx s = 102 ∧ tx (s + 1) = 105 ∧ tx (s + 2) = 108 ∧ tx (s + 3) = 109 := by
  constructor
  · intro h
    have h0 := h 0 (by decide) (by decide +kernel)
    have h1 := h 1 (by decide) (by decide +kernel)
    have h2 := h 2 (by decide) (by decide +kernel)
    have h3 := h 3 (by decide) (by decide +kernel)
    rw [Int.add_zero] at h0
    exact ⟨by omega, h0.2.trans (by decide +kernel), h1.2.trans (by decide +kernel), h2.2.trans (by decide +kernel), h3.2.trans (by decide +kernel)⟩
  · rintro ⟨a, b0, b1, b2, b3⟩ i i0 i1
    have e : wle 8 = 4 := by decide +kernel
    rcases (show i = 0 ∨ i = 1 ∨ i = 2 ∨ i = 3 by omega) with y | y | y | y <;> subst y
    · exact ⟨by omega, by rw [Int.add_zero, b0]; decide +kernel⟩
    · exact ⟨by omega, by rw [b1]; decide +kernel⟩
    · exact ⟨by omega, by rw [b2]; decide +kernel⟩
    · exact ⟨by omega, by rw [b3]; decide +kernel⟩
theorem jl_all : jl 0 = 2 ∧ jl 1 = 2 ∧ jl 2 = 5 ∧ jl 3 = 7 ∧ jl 4 = 8 ∧ jl 5 = 8 ∧ jl 6 = 3 ∧ jl 7 = 3 ∧ jl 8 = 3 ∧ jl 9 = 7 ∧ jl 10 = 6 ∧ jl 11 = 6 ∧ jl 12 = 8 ∧ jl 13 = 5 := by decide +kernel
theorem wle_all : wle 0 = 4 ∧ wle 1 = 6 ∧ wle 2 = 6 ∧ wle 3 = 1 ∧ wle 4 = 6 ∧ wle 5 = 5 ∧ wle 6 = 5 ∧ wle 7 = 7 ∧ wle 8 = 4 := by decide +kernel
noncomputable def hwA (tx : Int → Int) (ln s : Int) : Int := by classical exact if jm tx ln s 2 then s + 5 else s
noncomputable def hwB (tx : Int → Int) (ln s : Int) : Int := by classical exact if jm tx ln (hwA tx ln s) 3 then hwA tx ln s + 7 else hwA tx ln s
noncomputable def hwE (tx : Int → Int) (ln s : Int) : Int := by classical exact if jm tx ln (hwB tx ln s) 4 ∨ jm tx ln (hwB tx ln s) 5 then hwB tx ln s + 8 else hwB tx ln s
noncomputable def hwV (tx : Int → Int) (ln s : Int) : Int := by classical exact (if jm tx ln s 2 then 1 else 0) + (if jm tx ln (hwA tx ln s) 3 then 2 else 0) + (if jm tx ln (hwB tx ln s) 4 then 4 else if jm tx ln (hwB tx ln s) 5 then 8 else 0)
/-- the first letter of each word -/
theorem jm_szC {tx : Int → Int} {ln s : Int} {i : Nat} (hi : i < 4) : jm tx ln s (6 + i) ↔ (i < 3 ∧ s + 2 < ln ∧ tx s = 65 ∧ tx (s + 1) = 53 - (i : Int) ∧ tx (s + 2) = 32) ∨ (i = 3 ∧ jm tx ln s 9) := by
  rcases (show i = 0 ∨ i = 1 ∨ i = 2 ∨ i = 3 by omega) with y | y | y | y <;> subst y
  · rw [show 6 + 0 = 6 from rfl, jm_6, jm_9]; omega
  · rw [show 6 + 1 = 7 from rfl, jm_7, jm_9]; omega
  · rw [show 6 + 2 = 8 from rfl, jm_8, jm_9]; omega
  · rw [show 6 + 3 = 9 from rfl, jm_9]; omega
theorem jm_szl {i : Nat} (hi : i < 4) : (i < 3 → jl (6 + i) = 3) ∧ (i = 3 → jl (6 + i) = 7) := by
  rcases (show i = 0 ∨ i = 1 ∨ i = 2 ∨ i = 3 by omega) with y | y | y | y <;> subst y <;> decide +kernel
theorem jm_sz1 {tx : Int → Int} {ln s : Int} {i i' : Nat} (hi : i < 4) (hi' : i' < 4) (h : jm tx ln s (6 + i)) (h' : jm tx ln s (6 + i')) : i = i' := by
  rw [jm_szC hi, jm_9] at h
  rw [jm_szC hi', jm_9] at h'
  omega
theorem jm_kd {tx : Int → Int} {ln s : Int} {k : Nat} (hk : k < 4) : jm tx ln s (10 + k) ↔ wm tx ln s (5 + (k : Int)) ∧ s + wle (5 + (k : Int)) < ln ∧ tx (s + wle (5 + (k : Int))) = 59 := by
  have w := wle_all
  rcases (show k = 0 ∨ k = 1 ∨ k = 2 ∨ k = 3 by omega) with y | y | y | y <;> subst y
  · rw [show 10 + 0 = 10 from rfl, show (5 : Int) + ((0 : Nat) : Int) = 5 from rfl, jm_10, wm_5, w.2.2.2.2.2.1]; omega
  · rw [show 10 + 1 = 11 from rfl, show (5 : Int) + ((1 : Nat) : Int) = 6 from rfl, jm_11, wm_6, w.2.2.2.2.2.2.1]; omega
  · rw [show 10 + 2 = 12 from rfl, show (5 : Int) + ((2 : Nat) : Int) = 7 from rfl, jm_12, wm_7, w.2.2.2.2.2.2.2.1]; omega
  · rw [show 10 + 3 = 13 from rfl, show (5 : Int) + ((3 : Nat) : Int) = 8 from rfl, jm_13, wm_8, w.2.2.2.2.2.2.2.2]; omega
theorem jm_kdl {k : Nat} (hk : k < 4) : jl (10 + k) = wle (5 + (k : Int)) + 1 := by
  rcases (show k = 0 ∨ k = 1 ∨ k = 2 ∨ k = 3 by omega) with y | y | y | y <;> subst y <;> decide +kernel
theorem wm_kd1 {tx : Int → Int} {ln s : Int} {k : Nat} (hk : k < 4) (h : wm tx ln s (5 + (k : Int))) : knd tx ln s = (k : Int) := by
  refine knd_at (by omega) (by omega) h (fun j j0 j1 z => ?_)
  rcases (show k = 0 ∨ k = 1 ∨ k = 2 ∨ k = 3 by omega) with y | y | y | y <;> subst y
  · omega
  · rw [show (5 : Int) + ((1 : Nat) : Int) = 6 from rfl, wm_6] at h
    obtain rfl : j = 0 := by omega
    rw [show (5 : Int) + 0 = 5 from rfl, wm_5] at z
    omega
  · rw [show (5 : Int) + ((2 : Nat) : Int) = 7 from rfl, wm_7] at h
    rcases (show j = 0 ∨ j = 1 by omega) with y | y <;> subst y
    · rw [show (5 : Int) + 0 = 5 from rfl, wm_5] at z
      omega
    · rw [show (5 : Int) + 1 = 6 from rfl, wm_6] at z
      omega
  · rw [show (5 : Int) + ((3 : Nat) : Int) = 8 from rfl, wm_8] at h
    rcases (show j = 0 ∨ j = 1 ∨ j = 2 by omega) with y | y | y <;> subst y
    · rw [show (5 : Int) + 0 = 5 from rfl, wm_5] at z
      omega
    · rw [show (5 : Int) + 1 = 6 from rfl, wm_6] at z
      omega
    · rw [show (5 : Int) + 2 = 7 from rfl, wm_7] at z
      omega
/-- the step of an option, once what stands behind it is a space -/
theorem hw_a {tx : Int → Int} {ln u : Int} (hs : u < ln ∧ tx u = 32) (h : o1E tx ln u 0 < ln ∧ tx (o1E tx ln u 0) = 32) : hwA tx ln (u + 1) = o1E tx ln u 0 + 1 ∧ (jm tx ln (u + 1) 2 ↔ opO tx ln u 0) := by
  have w := wle_all.1
  unfold hwA
  unfold o1E at h ⊢
  by_cases y : opO tx ln u 0
  · rw [if_pos y] at h ⊢
    have z : jm tx ln (u + 1) 2 := by
      have y2 := y.2
      rw [wm_0] at y2
      rw [jm_2]
      rw [w, show u + 1 + 4 = u + 5 by omega] at h
      rw [show u + 1 + 4 = u + 5 by omega]
      omega
    rw [if_pos z]
    exact ⟨by omega, fun _ => y, fun _ => z⟩
  · rw [if_neg y]
    have z : ¬ jm tx ln (u + 1) 2 := fun z => y ⟨hs, by
      rw [jm_2] at z
      rw [wm_0]
      omega⟩
    rw [if_neg z]
    exact ⟨rfl, fun q => absurd q z, fun q => absurd q y⟩
theorem hw_b {tx : Int → Int} {ln v : Int} {p : Int} (hp : hwA tx ln p = v + 1) (hs : v < ln ∧ tx v = 32) (h : o1E tx ln v 1 < ln ∧ tx (o1E tx ln v 1) = 32) : hwB tx ln p = o1E tx ln v 1 + 1 ∧ (jm tx ln (v + 1) 3 ↔ opO tx ln v 1) := by
  have w := wle_all.2.1
  unfold hwB
  rw [hp]
  unfold o1E at h ⊢
  by_cases y : opO tx ln v 1
  · rw [if_pos y] at h ⊢
    have z : jm tx ln (v + 1) 3 := by
      have y2 := y.2
      rw [wm_1] at y2
      rw [jm_3]
      rw [w, show v + 1 + 6 = v + 7 by omega] at h
      rw [show v + 1 + 6 = v + 7 by omega]
      omega
    rw [if_pos z]
    exact ⟨by omega, fun _ => y, fun _ => z⟩
  · rw [if_neg y]
    have z : ¬ jm tx ln (v + 1) 3 := fun z => y ⟨hs, by
      rw [jm_3] at z
      rw [wm_1]
      omega⟩
    rw [if_neg z]
    exact ⟨rfl, fun q => absurd q z, fun q => absurd q y⟩
theorem hw_e {tx : Int → Int} {ln v : Int} {p : Int} (hp : hwB tx ln p = v + 1) (hs : v < ln ∧ tx v = 32) (h : o3E tx ln v < ln ∧ tx (o3E tx ln v) = 32) (ho : o3O tx ln v) : hwE tx ln p = o3E tx ln v + 1 ∧ o3V tx ln v = (by classical exact if jm tx ln (hwB tx ln p) 4 then 4 else if jm tx ln (hwB tx ln p) 5 then 8 else 0) := by
  have w := wle_all.2.2.1
  unfold hwE
  rw [hp]
  unfold o3E at h ⊢
  unfold o3V
  unfold o3O at ho
  by_cases y : opO tx ln v 2
  · have hh := ho y
    have y2 := y.2
    rw [wm_2] at y2
    rw [if_pos y] at h ⊢
    rw [if_pos y]
    rw [w, show v + 1 + 6 = v + 7 by omega] at h hh ⊢
    rw [show v + 7 + 1 = v + 8 by omega] at h ⊢
    by_cases g : tx (v + 7) = 49
    · have z : jm tx ln (v + 1) 4 := by
        rw [jm_4, show v + 1 + 7 = v + 8 by omega, show v + 1 + 6 = v + 7 by omega]
        omega
      rw [if_pos (Or.inl z), if_pos z, if_pos g]
      exact ⟨by omega, rfl⟩
    · have z : jm tx ln (v + 1) 5 := by
        rw [jm_5, show v + 1 + 7 = v + 8 by omega, show v + 1 + 6 = v + 7 by omega]
        omega
      have z4 : ¬ jm tx ln (v + 1) 4 := fun q => by
        rw [jm_4, show v + 1 + 6 = v + 7 by omega] at q
        omega
      rw [if_pos (Or.inr z), if_neg z4, if_pos z, if_neg g]
      exact ⟨by omega, rfl⟩
  · have z4 : ¬ jm tx ln (v + 1) 4 := fun z => y ⟨hs, by
      rw [jm_4] at z
      rw [wm_2]
      omega⟩
    have z5 : ¬ jm tx ln (v + 1) 5 := fun z => y ⟨hs, by
      rw [jm_5] at z
      rw [wm_2]
      omega⟩
    rw [if_neg (fun q => q.elim z4 z5), if_neg z4, if_neg z5, if_neg y, if_neg y]
    exact ⟨rfl, rfl⟩
/-- where no space stands, nothing of the model's form does -/
theorem sp_1 {tx : Int → Int} {ln v w : Int} (h : ¬ (v < ln ∧ tx v = 32)) : o1E tx ln v w = v := by
  unfold o1E
  exact if_neg (fun q => h q.1)
theorem sp_3 {tx : Int → Int} {ln v : Int} (h : ¬ (v < ln ∧ tx v = 32)) : o3E tx ln v = v := by
  unfold o3E
  exact if_neg (fun q => h q.1)
theorem hwV_eq {tx : Int → Int} {ln u v1 v2 : Int} (e1 : v1 = o1E tx ln u 0) (a : hwA tx ln (u + 1) = v1 + 1) (b1 : jm tx ln (u + 1) 2 ↔ opO tx ln u 0) (b2 : jm tx ln (v1 + 1) 3 ↔ opO tx ln v1 1) (b3 : o3V tx ln v2 = (by classical exact if jm tx ln (hwB tx ln (u + 1)) 4 then 4 else if jm tx ln (hwB tx ln (u + 1)) 5 then 8 else 0)) : hwV tx ln (u + 1) = o1V tx ln u 0 1 + o1V tx ln v1 1 2 + o3V tx ln v2 := by
  unfold hwV o1V
  rw [b3, a]
  congr 1
  congr 1
  · by_cases y : opO tx ln u 0
    · rw [if_pos y, if_pos (b1.mpr y)]
    · rw [if_neg y, if_neg (fun q => y (b1.mp q))]
  · by_cases y : opO tx ln v1 1
    · rw [if_pos y, if_pos (b2.mpr y)]
    · rw [if_neg y, if_neg (fun q => y (b2.mp q))]
/-- sizes and kinds -/
theorem sz_to {tx : Int → Int} {ln q : Int} (h : szO tx ln q) (h2 : szE tx ln q < ln ∧ tx (szE tx ln q) = 32) : ∃ i : Nat, i < 4 ∧ jm tx ln q (6 + i) ∧ szV tx ln q = (i : Int) ∧ szE tx ln q + 1 = q + jl (6 + i) := by
  have w := wle_all
  unfold szE at h2 ⊢
  unfold szV
  by_cases y : wm tx ln q 4
  · rw [if_pos y] at h2
    rw [if_pos y, if_pos y]
    rw [w.2.2.2.2.1] at h2 ⊢
    refine ⟨3, by decide, ?_, rfl, ?_⟩
    · rw [show 6 + 3 = 9 from rfl, jm_9]
      rw [wm_4] at y
      omega
    · rw [(jm_szl (i := 3) (by decide)).2 rfl]
      omega
  · rw [if_neg y] at h2
    rw [if_neg y, if_neg y]
    rw [w.2.2.2.1, show q + 1 + 1 = q + 2 by omega] at h2 ⊢
    unfold szO at h
    rw [wm_3] at h
    have h3 : q + 0 < ln ∧ tx q = 65 ∧ q + 1 < ln ∧ 51 ≤ tx (q + 1) ∧ tx (q + 1) ≤ 53 := by
      rcases h with z | z
      · exact absurd z y
      · exact ⟨z.2.1.1, z.2.1.2, z.2.2⟩
    refine ⟨(53 - tx (q + 1)).toNat, by omega, ?_, by omega, ?_⟩
    · rw [jm_szC (by omega)]
      omega
    · rw [(jm_szl (i := (53 - tx (q + 1)).toNat) (by omega)).1 (by omega)]
      omega
theorem sz_of {tx : Int → Int} {ln q : Int} {i : Nat} (hi : i < 4) (h : jm tx ln q (6 + i)) : szO tx ln q ∧ (szE tx ln q < ln ∧ tx (szE tx ln q) = 32) ∧ szV tx ln q = (i : Int) ∧ szE tx ln q + 1 = q + jl (6 + i) := by
  have w := wle_all
  rw [jm_szC hi, jm_9] at h
  unfold szE szV szO
  by_cases y : wm tx ln q 4
  · rw [if_pos y, if_pos y, w.2.2.2.2.1]
    have y2 := y
    rw [wm_4] at y2
    obtain rfl : i = 3 := by omega
    rw [(jm_szl (i := 3) (by decide)).2 rfl]
    exact ⟨Or.inl y, by omega, rfl, by omega⟩
  · rw [if_neg y, if_neg y, w.2.2.2.1, show q + 1 + 1 = q + 2 by omega]
    have i3 : i < 3 := by
      rcases h with z | z
      · exact z.1
      · exfalso
        apply y
        rw [wm_4]
        omega
    rw [(jm_szl hi).1 i3]
    refine ⟨Or.inr ⟨y, ?_, by omega⟩, by omega, by omega, by omega⟩
    rw [wm_3]
    omega

/-- from the class to the model -/
theorem re_of {tx : Int → Int} {ln u : Int} (hs : u < ln ∧ tx u = 32) {i k : Nat} (hi : i < 4) (hk : k < 4) (h1 : jm tx ln (hwE tx ln (u + 1)) (6 + i)) (h2 : jm tx ln (hwE tx ln (u + 1) + jl (6 + i)) (10 + k)) :
    reO tx ln u ∧ eS tx ln (tjX tx ln u) = (i : Int) ∧ eK tx ln (tjX tx ln u) = (k : Int) ∧ eE tx ln (tjX tx ln u) = hwE tx ln (u + 1) + jl (6 + i) + jl (10 + k) ∧ o1V tx ln u 0 1 + o1V tx ln (o1E tx ln u 0) 1 2 + o3V tx ln (tjW tx ln u) = hwV tx ln (u + 1) := by
  have w := wle_all
  have hc : tx (hwE tx ln (u + 1)) = 65 ∨ tx (hwE tx ln (u + 1)) = 108 := by
    have z := h1
    rw [jm_szC hi, jm_9] at z
    omega
  -- first option
  have a0 : o1E tx ln u 0 < ln ∧ tx (o1E tx ln u 0) = 32 := by
    unfold o1E
    by_cases y : opO tx ln u 0
    · rw [if_pos y, w.1, show u + 1 + 4 = u + 5 by omega]
      have y2 := y.2
      rw [wm_0] at y2
      by_cases z : jm tx ln (u + 1) 2
      · rw [jm_2, show u + 1 + 4 = u + 5 by omega] at z
        omega
      · exfalso
        have e1 : hwA tx ln (u + 1) = u + 1 := if_neg z
        have n3 : ¬ jm tx ln (u + 1) 3 := by rw [jm_3]; omega
        have n4 : ¬ jm tx ln (u + 1) 4 := by rw [jm_4]; omega
        have n5 : ¬ jm tx ln (u + 1) 5 := by rw [jm_5]; omega
        have e2 : hwB tx ln (u + 1) = u + 1 := by unfold hwB; rw [e1]; exact if_neg n3
        have e3 : hwE tx ln (u + 1) = u + 1 := by unfold hwE; rw [e2]; exact if_neg (fun q => q.elim n4 n5)
        rw [e3] at hc
        omega
    · rw [if_neg y]
      exact hs
  obtain ⟨A, A2⟩ := hw_a hs a0
  have b0 : o1E tx ln (o1E tx ln u 0) 1 < ln ∧ tx (o1E tx ln (o1E tx ln u 0) 1) = 32 := by
    generalize o1E tx ln u 0 = v at a0 A
    unfold o1E
    by_cases y : opO tx ln v 1
    · rw [if_pos y, w.2.1, show v + 1 + 6 = v + 7 by omega]
      have y2 := y.2
      rw [wm_1] at y2
      by_cases z : jm tx ln (v + 1) 3
      · rw [jm_3, show v + 1 + 6 = v + 7 by omega] at z
        omega
      · exfalso
        have n4 : ¬ jm tx ln (v + 1) 4 := by rw [jm_4]; omega
        have n5 : ¬ jm tx ln (v + 1) 5 := by rw [jm_5]; omega
        have e2 : hwB tx ln (u + 1) = v + 1 := by unfold hwB; rw [A]; exact if_neg z
        have e3 : hwE tx ln (u + 1) = v + 1 := by unfold hwE; rw [e2]; exact if_neg (fun q => q.elim n4 n5)
        rw [e3] at hc
        omega
    · rw [if_neg y]
      exact a0
  obtain ⟨B, B2⟩ := hw_b A a0 b0
  have c0 : o3O tx ln (tjW tx ln u) ∧ (o3E tx ln (tjW tx ln u) < ln ∧ tx (o3E tx ln (tjW tx ln u)) = 32) := by
    show o3O tx ln (o1E tx ln (o1E tx ln u 0) 1) ∧ (o3E tx ln (o1E tx ln (o1E tx ln u 0) 1) < ln ∧ tx (o3E tx ln (o1E tx ln (o1E tx ln u 0) 1)) = 32)
    generalize o1E tx ln (o1E tx ln u 0) 1 = v at b0 B
    unfold o3E o3O
    by_cases y : opO tx ln v 2
    · have y2 := y.2
      rw [wm_2] at y2
      rw [if_pos y, w.2.2.1, show v + 1 + 6 = v + 7 by omega, show v + 7 + 1 = v + 8 by omega]
      by_cases z : jm tx ln (v + 1) 4 ∨ jm tx ln (v + 1) 5
      · rw [jm_4, jm_5, show v + 1 + 7 = v + 8 by omega, show v + 1 + 6 = v + 7 by omega] at z
        exact ⟨fun _ => by omega, by omega⟩
      · exfalso
        have e3 : hwE tx ln (u + 1) = v + 1 := by unfold hwE; rw [B]; exact if_neg z
        rw [e3] at hc
        omega
    · rw [if_neg y]
      exact ⟨fun q => absurd q y, b0⟩
  obtain ⟨C, C2⟩ := hw_e B b0 c0.2 c0.1
  have C' : hwE tx ln (u + 1) = tjX tx ln u + 1 := C
  rw [C'] at h1 h2
  obtain ⟨s1, s2, s3, s4⟩ := sz_of hi h1
  have kk := (jm_kd hk).mp h2
  rw [← s4] at kk
  have kn := wm_kd1 hk kk.1
  refine ⟨⟨c0.1, c0.2, s1, s2, by rw [kn]; omega, by rw [kn]; exact kk.2⟩, s3, kn, ?_, ?_⟩
  · unfold eE
    rw [kn, C', jm_kdl hk]
    omega
  · exact (hwV_eq rfl A A2 B2 C2).symm
/-- from the model to the class -/
theorem re_to {tx : Int → Int} {ln u : Int} (h : reO tx ln u) : (u < ln ∧ tx u = 32) ∧ ∃ i k : Nat, i < 4 ∧ k < 4 ∧ jm tx ln (hwE tx ln (u + 1)) (6 + i) ∧ jm tx ln (hwE tx ln (u + 1) + jl (6 + i)) (10 + k) := by
  obtain ⟨g1, g2, g3, g4, g5, g6⟩ := h
  have x1 : tjX tx ln u = o3E tx ln (o1E tx ln (o1E tx ln u 0) 1) := rfl
  have b0 : o1E tx ln (o1E tx ln u 0) 1 < ln ∧ tx (o1E tx ln (o1E tx ln u 0) 1) = 32 := by
    by_cases y : o1E tx ln (o1E tx ln u 0) 1 < ln ∧ tx (o1E tx ln (o1E tx ln u 0) 1) = 32
    · exact y
    · rw [x1, sp_3 y] at g2
      exact g2
  have a0 : o1E tx ln u 0 < ln ∧ tx (o1E tx ln u 0) = 32 := by
    by_cases y : o1E tx ln u 0 < ln ∧ tx (o1E tx ln u 0) = 32
    · exact y
    · rw [sp_1 y] at b0
      exact b0
  have hs : u < ln ∧ tx u = 32 := by
    by_cases y : u < ln ∧ tx u = 32
    · exact y
    · rw [sp_1 y] at a0
      exact a0
  obtain ⟨A, A2⟩ := hw_a hs a0
  obtain ⟨B, B2⟩ := hw_b A a0 b0
  obtain ⟨C, C2⟩ := hw_e B b0 g2 g1
  have C' : hwE tx ln (u + 1) = tjX tx ln u + 1 := C
  obtain ⟨i, hi, s1, s3, s4⟩ := sz_to g3 g4
  have kr := knd_sp g5
  refine ⟨hs, i, (knd tx ln (szE tx ln (tjX tx ln u + 1) + 1)).toNat, hi, by omega, by rw [C']; exact s1, ?_⟩
  rw [C', ← s4, jm_kd (by omega), show ((knd tx ln (szE tx ln (tjX tx ln u + 1) + 1)).toNat : Int) = knd tx ln (szE tx ln (tjX tx ln u + 1) + 1) by omega]
  exact ⟨kr.2, g6⟩
/-- a number and its unit -/
def nuC (tx : Int → Int) (ln s : Int) (j : Nat) : Prop := 0 < dgc tx ln s ∧ jm tx ln (s + dgc tx ln s) j
theorem nu_0 {tx : Int → Int} {ln s : Int} : nuC tx ln s 0 ↔ nuO tx ln s 112 ∧ (t1E tx ln s < ln ∧ tx (t1E tx ln s) = 32) := by
  unfold nuC nuO t1E
  rw [jm_0]
  omega
theorem nu_1 {tx : Int → Int} {ln s : Int} : nuC tx ln s 1 ↔ nuO tx ln s 99 ∧ (t1E tx ln s < ln ∧ tx (t1E tx ln s) = 32) := by
  unfold nuC nuO t1E
  rw [jm_1]
  omega
theorem cj_ok {tx : Int → Int} {ln s s1 s2 : Int} {i k : Nat} (h1 : nuC tx ln s 0) (e1 : s1 = s + dgc tx ln s + 2) (h2 : nuC tx ln s1 1) (e2 : s2 = s1 + dgc tx ln s1 + 2) (hi : i < 4) (hk : k < 4) (h3 : jm tx ln (hwE tx ln s2) (6 + i)) (h4 : jm tx ln (hwE tx ln s2 + jl (6 + i)) (10 + k)) :
    tjO tx ln s ∧ tjP tx ln s = dgN tx ln s ∧ tjC tx ln s = dgN tx ln s1 ∧ tjS tx ln s = (i : Int) ∧ tjK tx ln s = (k : Int) ∧ tjH tx ln s = hwV tx ln s2 ∧ tjE tx ln s = hwE tx ln s2 + jl (6 + i) + jl (10 + k) := by
  have f1 : s1 = t1E tx ln s + 1 := by unfold t1E; omega
  subst f1
  have f2 : s2 = tjU tx ln s + 1 := by unfold tjU; rw [e2]; show _ = t1E tx ln s + 1 + dgc tx ln (t1E tx ln s + 1) + 1 + 1; omega
  subst f2
  have n1 := nu_0.mp h1
  have n2 := nu_1.mp h2
  have n3 : tjU tx ln s < ln ∧ tx (tjU tx ln s) = 32 := n2.2
  obtain ⟨r1, r2, r3, r4, r5⟩ := re_of n3 hi hk h3 h4
  exact ⟨⟨n1.1, n1.2, n2.1, r1⟩, rfl, rfl, r2, r3, r5, r4⟩
theorem cj_no {tx : Int → Int} {ln s : Int} (h : tjO tx ln s) : nuC tx ln s 0 ∧ ∀ s1, s1 = s + dgc tx ln s + 2 → nuC tx ln s1 1 ∧ ∀ s2, s2 = s1 + dgc tx ln s1 + 2 → ∃ i k : Nat, i < 4 ∧ k < 4 ∧ jm tx ln (hwE tx ln s2) (6 + i) ∧ jm tx ln (hwE tx ln s2 + jl (6 + i)) (10 + k) := by
  obtain ⟨a, b, c, d⟩ := h
  obtain ⟨r1, r2⟩ := re_to d
  refine ⟨nu_0.mpr ⟨a, b⟩, fun s1 e1 => ?_⟩
  have f1 : s1 = t1E tx ln s + 1 := by unfold t1E; omega
  subst f1
  refine ⟨nu_1.mpr ⟨c, r1⟩, fun s2 e2 => ?_⟩
  have f2 : s2 = tjU tx ln s + 1 := by unfold tjU; rw [e2]; show _ = t1E tx ln s + 1 + dgc tx ln (t1E tx ln s + 1) + 1 + 1; omega
  subst f2
  exact r2
