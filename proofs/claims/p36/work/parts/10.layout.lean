/-- the references that stay as the constructors lay them -/
def r0L : List (List (Option Nat)) := [[some 1, none, some 2, none, none, none, none, some 24, some 41, none, some 79, some 82, some 288, some 323, some 324, some 327, some 334], [], [], [none, none, some 4, none, some 9, none, some 22, some 23], [some 5, some 6, some 7, some 8], [], [], [], [], [some 10, some 11, some 12, some 13, some 14, some 15, some 16, some 17, some 18, some 19, some 20, some 21], [], [], [], [], [], [], [], [], [], [], [], [], [], [], [none, none, none, none, some 25, some 26, some 27, some 28, none, some 37, some 38, some 39, some 40], [], [], [], [some 29, some 30, some 31, some 32, some 33, some 34, some 35, some 36], [], [], [], [], [], [], [], [], [], [], [], [], [none, none, none, none, some 42, some 43, some 44, some 45, none, some 54, some 55, some 56, some 57], [], [], [], [some 46, some 47, some 48, some 49, some 50, some 51, some 52, some 53], [], [], [], [], [], [], [], [], [], [], [], [], [none, none, some 59, none, some 64, none, some 77, some 78], [some 60, some 61, some 62, some 63], [], [], [], [], [some 65, some 66, some 67, some 68, some 69, some 70, some 71, some 72, some 73, some 74, some 75, some 76], [], [], [], [], [], [], [], [], [], [], [], [], [], [], [some 80], [], [], [some 83], [some 84, some 101, some 118, some 135, some 152, some 169, some 186, some 203, some 220, some 237, some 254, some 271], [none, none, none, none, some 85, some 86, some 87, some 88, none, some 97, some 98, some 99, some 100], [], [], [], [some 89, some 90, some 91, some 92, some 93, some 94, some 95, some 96], [], [], [], [], [], [], [], [], [], [], [], [], [none, none, none, none, some 102, some 103, some 104, some 105, none, some 114, some 115, some 116, some 117], [], [], [], [some 106, some 107, some 108, some 109, some 110, some 111, some 112, some 113], [], [], [], [], [], [], [], [], [], [], [], [], [none, none, none, none, some 119, some 120, some 121, some 122, none, some 131, some 132, some 133, some 134], [], [], [], [some 123, some 124, some 125, some 126, some 127, some 128, some 129, some 130], [], [], [], [], [], [], [], [], [], [], [], [], [none, none, none, none, some 136, some 137, some 138, some 139, none, some 148, some 149, some 150, some 151], [], [], [], [some 140, some 141, some 142, some 143, some 144, some 145, some 146, some 147], [], [], [], [], [], [], [], [], [], [], [], [], [none, none, none, none, some 153, some 154, some 155, some 156, none, some 165, some 166, some 167, some 168], [], [], [], [some 157, some 158, some 159, some 160, some 161, some 162, some 163, some 164], [], [], [], [], [], [], [], [], [], [], [], [], [none, none, none, none, some 170, some 171, some 172, some 173, none, some 182, some 183, some 184, some 185], [], [], [], [some 174, some 175, some 176, some 177, some 178, some 179, some 180, some 181], [], [], [], [], [], [], [], [], [], [], [], [], [none, none, none, none, some 187, some 188, some 189, some 190, none, some 199, some 200, some 201, some 202], [], [], [], [some 191, some 192, some 193, some 194, some 195, some 196, some 197, some 198], [], [], [], [], [], [], [], [], [], [], [], [], [none, none, none, none, some 204, some 205, some 206, some 207, none, some 216, some 217, some 218, some 219], [], [], [], [some 208, some 209, some 210, some 211, some 212, some 213, some 214, some 215], [], [], [], [], [], [], [], [], [], [], [], [], [none, none, none, none, some 221, some 222, some 223, some 224, none, some 233, some 234, some 235, some 236], [], [], [], [some 225, some 226, some 227, some 228, some 229, some 230, some 231, some 232], [], [], [], [], [], [], [], [], [], [], [], [], [none, none, none, none, some 238, some 239, some 240, some 241, none, some 250, some 251, some 252, some 253], [], [], [], [some 242, some 243, some 244, some 245, some 246, some 247, some 248, some 249], [], [], [], [], [], [], [], [], [], [], [], [], [none, none, none, none, some 255, some 256, some 257, some 258, none, some 267, some 268, some 269, some 270], [], [], [], [some 259, some 260, some 261, some 262, some 263, some 264, some 265, some 266], [], [], [], [], [], [], [], [], [], [], [], [], [none, none, none, none, some 272, some 273, some 274, some 275, none, some 284, some 285, some 286, some 287], [], [], [], [some 276, some 277, some 278, some 279, some 280, some 281, some 282, some 283], [], [], [], [], [], [], [], [], [], [], [], [], [some 289, some 306], [none, none, none, none, some 290, some 291, some 292, some 293, none, some 302, some 303, some 304, some 305], [], [], [], [some 294, some 295, some 296, some 297, some 298, some 299, some 300, some 301], [], [], [], [], [], [], [], [], [], [], [], [], [none, none, none, none, some 307, some 308, some 309, some 310, none, some 319, some 320, some 321, some 322], [], [], [], [some 311, some 312, some 313, some 314, some 315, some 316, some 317, some 318], [], [], [], [], [], [], [], [], [], [], [], [], [], [some 325, some 326], [], [], [none, none, some 328, some 329, some 330, some 331, some 332, some 333], [], [], [], [], [], [], [some 335, some 336, some 337], [], [], [], []]
def r0 (i k : Nat) : Option Nat := (r0L.getD i []).getD k none
/-- all cells are made, the fixed references stand -/
def Wf (μ : Wd) : Prop := 339 ≤ wn μ ∧ ∀ i k j, r0 i k = some j → gR μ i k = some j
theorem Wf.lt {μ : Wd} (hw : Wf μ) {i : Nat} (h : i < 339) : i < wn μ := Nat.lt_of_lt_of_le h hw.1
theorem al_lt {μ : Wd} {i : Nat} (h : i < 339) : al μ i = klL.getD i 0 := if_pos h
theorem kt_lt {i : Nat} (h : i < 339) : kt i = ktL.getD i 99 := if_pos h
theorem Ob.mk {μ : Wd} (hw : Wf μ) {i c : Nat} (h : i < 339) (hk : ktL.getD i 99 = c) : Ob μ i c := ⟨hw.lt h, (km_lt h).trans ((kt_lt h).trans hk)⟩
theorem Ar.mk {μ : Wd} (hw : Wf μ) {i t n : Nat} (h : i < 339) (hk : ktL.getD i 99 = t) (hl : klL.getD i 0 = n) : Ar μ i t n := ⟨hw.lt h, (km_lt h).trans ((kt_lt h).trans hk), (al_lt h).trans hl⟩
def flB : List Nat := [24, 41, 84, 101, 118, 135, 152, 169, 186, 203, 220, 237, 254, 271, 289, 306]
def Fl (f : Nat) : Prop := f ∈ flB
def Pl (p : Nat) : Prop := p = 3 ∨ p = 58
theorem Fl.lt {f : Nat} (hf : Fl f) : f + 17 ≤ 339 := by
  have h : ∀ f ∈ flB, f + 17 ≤ 339 := by decide +kernel
  exact h f hf
theorem Pl.lt {p : Nat} (hp : Pl p) : p + 21 ≤ 339 := by rcases hp with rfl | rfl <;> decide
theorem fl_o {μ : Wd} {f : Nat} (hw : Wf μ) (hf : Fl f) : Ob μ f 2 := by
  have h : ∀ f ∈ flB, ktL.getD (f + 0) 99 = 2 := by decide +kernel
  exact Ob.mk hw (by have := hf.lt; omega) (h f hf)
theorem fl_a1 {μ : Wd} {f : Nat} (hw : Wf μ) (hf : Fl f) : Ar μ (f + 1) 20 40 := by
  have h : ∀ f ∈ flB, ktL.getD (f + 1) 99 = 20 ∧ klL.getD (f + 1) 0 = 40 := by decide +kernel
  exact Ar.mk hw (by have := hf.lt; omega) (h f hf).1 (h f hf).2
theorem fl_a2 {μ : Wd} {f : Nat} (hw : Wf μ) (hf : Fl f) : Ar μ (f + 2) 20 40 := by
  have h : ∀ f ∈ flB, ktL.getD (f + 2) 99 = 20 ∧ klL.getD (f + 2) 0 = 40 := by decide +kernel
  exact Ar.mk hw (by have := hf.lt; omega) (h f hf).1 (h f hf).2
theorem fl_a3 {μ : Wd} {f : Nat} (hw : Wf μ) (hf : Fl f) : Ar μ (f + 3) 20 40 := by
  have h : ∀ f ∈ flB, ktL.getD (f + 3) 99 = 20 ∧ klL.getD (f + 3) 0 = 40 := by decide +kernel
  exact Ar.mk hw (by have := hf.lt; omega) (h f hf).1 (h f hf).2
theorem fl_a4 {μ : Wd} {f : Nat} (hw : Wf μ) (hf : Fl f) : Ar μ (f + 4) 28 8 := by
  have h : ∀ f ∈ flB, ktL.getD (f + 4) 99 = 28 ∧ klL.getD (f + 4) 0 = 8 := by decide +kernel
  exact Ar.mk hw (by have := hf.lt; omega) (h f hf).1 (h f hf).2
theorem fl_a13 {μ : Wd} {f : Nat} (hw : Wf μ) (hf : Fl f) : Ar μ (f + 13) 20 6 := by
  have h : ∀ f ∈ flB, ktL.getD (f + 13) 99 = 20 ∧ klL.getD (f + 13) 0 = 6 := by decide +kernel
  exact Ar.mk hw (by have := hf.lt; omega) (h f hf).1 (h f hf).2
theorem fl_a14 {μ : Wd} {f : Nat} (hw : Wf μ) (hf : Fl f) : Ar μ (f + 14) 20 6 := by
  have h : ∀ f ∈ flB, ktL.getD (f + 14) 99 = 20 ∧ klL.getD (f + 14) 0 = 6 := by decide +kernel
  exact Ar.mk hw (by have := hf.lt; omega) (h f hf).1 (h f hf).2
theorem fl_a15 {μ : Wd} {f : Nat} (hw : Wf μ) (hf : Fl f) : Ar μ (f + 15) 20 6 := by
  have h : ∀ f ∈ flB, ktL.getD (f + 15) 99 = 20 ∧ klL.getD (f + 15) 0 = 6 := by decide +kernel
  exact Ar.mk hw (by have := hf.lt; omega) (h f hf).1 (h f hf).2
theorem fl_a16 {μ : Wd} {f : Nat} (hw : Wf μ) (hf : Fl f) : Ar μ (f + 16) 21 6 := by
  have h : ∀ f ∈ flB, ktL.getD (f + 16) 99 = 21 ∧ klL.getD (f + 16) 0 = 6 := by decide +kernel
  exact Ar.mk hw (by have := hf.lt; omega) (h f hf).1 (h f hf).2
theorem fl_u {μ : Wd} {f t : Nat} (hw : Wf μ) (hf : Fl f) (ht : t < 8) : Ar μ (f + 5 + t) 20 12 := by
  have h : ∀ f ∈ flB, ∀ t, t < 8 → ktL.getD (f + 5 + t) 99 = 20 ∧ klL.getD (f + 5 + t) 0 = 12 := by decide +kernel
  exact Ar.mk hw (by have := hf.lt; omega) (h f hf t ht).1 (h f hf t ht).2
theorem fl_ru {μ : Wd} {f t : Nat} (hw : Wf μ) (hf : Fl f) (ht : t < 8) : gR μ (f + 4) t = some (f + 5 + t) := by
  have h : ∀ f ∈ flB, ∀ t, t < 8 → r0 (f + 4) t = some (f + 5 + t) := by decide +kernel
  exact hw.2 _ _ _ (h f hf t ht)
theorem fl_r4 {μ : Wd} {f : Nat} (hw : Wf μ) (hf : Fl f) : gR μ f 4 = some (f + 1) := by
  have h : ∀ f ∈ flB, r0 f 4 = some (f + 1) := by decide +kernel
  exact hw.2 _ _ _ (h f hf)
theorem fl_r5 {μ : Wd} {f : Nat} (hw : Wf μ) (hf : Fl f) : gR μ f 5 = some (f + 2) := by
  have h : ∀ f ∈ flB, r0 f 5 = some (f + 2) := by decide +kernel
  exact hw.2 _ _ _ (h f hf)
theorem fl_r6 {μ : Wd} {f : Nat} (hw : Wf μ) (hf : Fl f) : gR μ f 6 = some (f + 3) := by
  have h : ∀ f ∈ flB, r0 f 6 = some (f + 3) := by decide +kernel
  exact hw.2 _ _ _ (h f hf)
theorem fl_r7 {μ : Wd} {f : Nat} (hw : Wf μ) (hf : Fl f) : gR μ f 7 = some (f + 4) := by
  have h : ∀ f ∈ flB, r0 f 7 = some (f + 4) := by decide +kernel
  exact hw.2 _ _ _ (h f hf)
theorem fl_r9 {μ : Wd} {f : Nat} (hw : Wf μ) (hf : Fl f) : gR μ f 9 = some (f + 13) := by
  have h : ∀ f ∈ flB, r0 f 9 = some (f + 13) := by decide +kernel
  exact hw.2 _ _ _ (h f hf)
theorem fl_r10 {μ : Wd} {f : Nat} (hw : Wf μ) (hf : Fl f) : gR μ f 10 = some (f + 14) := by
  have h : ∀ f ∈ flB, r0 f 10 = some (f + 14) := by decide +kernel
  exact hw.2 _ _ _ (h f hf)
theorem fl_r11 {μ : Wd} {f : Nat} (hw : Wf μ) (hf : Fl f) : gR μ f 11 = some (f + 15) := by
  have h : ∀ f ∈ flB, r0 f 11 = some (f + 15) := by decide +kernel
  exact hw.2 _ _ _ (h f hf)
theorem fl_r12 {μ : Wd} {f : Nat} (hw : Wf μ) (hf : Fl f) : gR μ f 12 = some (f + 16) := by
  have h : ∀ f ∈ flB, r0 f 12 = some (f + 16) := by decide +kernel
  exact hw.2 _ _ _ (h f hf)
theorem pl_o {μ : Wd} {p : Nat} (hw : Wf μ) (hp : Pl p) : Ob μ p 8 := by
  rcases hp with rfl | rfl <;> exact Ob.mk hw (by decide) (by decide +kernel)
theorem pl_a1 {μ : Wd} {p : Nat} (hw : Wf μ) (hp : Pl p) : Ar μ (p + 1) 25 4 := by
  rcases hp with rfl | rfl <;> exact Ar.mk hw (by decide) (by decide +kernel) (by decide +kernel)
theorem pl_a6 {μ : Wd} {p : Nat} (hw : Wf μ) (hp : Pl p) : Ar μ (p + 6) 26 12 := by
  rcases hp with rfl | rfl <;> exact Ar.mk hw (by decide) (by decide +kernel) (by decide +kernel)
theorem pl_a19 {μ : Wd} {p : Nat} (hw : Wf μ) (hp : Pl p) : Ar μ (p + 19) 20 8 := by
  rcases hp with rfl | rfl <;> exact Ar.mk hw (by decide) (by decide +kernel) (by decide +kernel)
theorem pl_a20 {μ : Wd} {p : Nat} (hw : Wf μ) (hp : Pl p) : Ar μ (p + 20) 20 8 := by
  rcases hp with rfl | rfl <;> exact Ar.mk hw (by decide) (by decide +kernel) (by decide +kernel)
theorem pl_r2 {μ : Wd} {p : Nat} (hw : Wf μ) (hp : Pl p) : gR μ p 2 = some (p + 1) := by
  rcases hp with rfl | rfl <;> exact hw.2 _ _ _ (by decide +kernel)
theorem pl_r4 {μ : Wd} {p : Nat} (hw : Wf μ) (hp : Pl p) : gR μ p 4 = some (p + 6) := by
  rcases hp with rfl | rfl <;> exact hw.2 _ _ _ (by decide +kernel)
theorem pl_r6 {μ : Wd} {p : Nat} (hw : Wf μ) (hp : Pl p) : gR μ p 6 = some (p + 19) := by
  rcases hp with rfl | rfl <;> exact hw.2 _ _ _ (by decide +kernel)
theorem pl_r7 {μ : Wd} {p : Nat} (hw : Wf μ) (hp : Pl p) : gR μ p 7 = some (p + 20) := by
  rcases hp with rfl | rfl <;> exact hw.2 _ _ _ (by decide +kernel)
theorem pl_c {μ : Wd} {p c : Nat} (hw : Wf μ) (hp : Pl p) (hc : c < 4) : Ob μ (p + 2 + c) 1 := by
  have h : ∀ p, p = 3 ∨ p = 58 → ∀ c, c < 4 → ktL.getD (p + 2 + c) 99 = 1 := by
    intro p hp
    rcases hp with rfl | rfl <;> decide +kernel
  exact Ob.mk hw (by have := hp.lt; omega) (h p hp c hc)
theorem pl_rc {μ : Wd} {p c : Nat} (hw : Wf μ) (hp : Pl p) (hc : c < 4) : gR μ (p + 1) c = some (p + 2 + c) := by
  have h : ∀ p, p = 3 ∨ p = 58 → ∀ c, c < 4 → r0 (p + 1) c = some (p + 2 + c) := by
    intro p hp
    rcases hp with rfl | rfl <;> decide +kernel
  exact hw.2 _ _ _ (h p hp c hc)
theorem pl_m {μ : Wd} {p c : Nat} (hw : Wf μ) (hp : Pl p) (hc : c < 12) : Ob μ (p + 7 + c) 6 := by
  have h : ∀ p, p = 3 ∨ p = 58 → ∀ c, c < 12 → ktL.getD (p + 7 + c) 99 = 6 := by
    intro p hp
    rcases hp with rfl | rfl <;> decide +kernel
  exact Ob.mk hw (by have := hp.lt; omega) (h p hp c hc)
theorem pl_rm {μ : Wd} {p c : Nat} (hw : Wf μ) (hp : Pl p) (hc : c < 12) : gR μ (p + 6) c = some (p + 7 + c) := by
  have h : ∀ p, p = 3 ∨ p = 58 → ∀ c, c < 12 → r0 (p + 6) c = some (p + 7 + c) := by
    intro p hp
    rcases hp with rfl | rfl <;> decide +kernel
  exact hw.2 _ _ _ (h p hp c hc)
theorem hist_fl {k : Nat} (hk : k < 12) : Fl (84 + 17 * k) := by
  have h : ∀ k, k < 12 → 84 + 17 * k ∈ flB := by decide +kernel
  exact h k hk
theorem slot_fl {k : Nat} (hk : k < 2) : Fl (289 + 17 * k) := by
  have h : ∀ k, k < 2 → 289 + 17 * k ∈ flB := by decide +kernel
  exact h k hk
theorem hist_r {μ : Wd} {k : Nat} (hw : Wf μ) (hk : k < 12) : gR μ 83 k = some (84 + 17 * k) := by
  have h : ∀ k, k < 12 → r0 83 k = some (84 + 17 * k) := by decide +kernel
  exact hw.2 _ _ _ (h k hk)
theorem slot_r {μ : Wd} {k : Nat} (hw : Wf μ) (hk : k < 2) : gR μ 288 k = some (289 + 17 * k) := by
  have h : ∀ k, k < 2 → r0 288 k = some (289 + 17 * k) := by decide +kernel
  exact hw.2 _ _ _ (h k hk)
theorem fl_now : Fl 24 := by show (24 : Nat) ∈ flB; decide
theorem fl_trial : Fl 41 := by show (41 : Nat) ∈ flB; decide
theorem co_0 {μ : Wd} (hw : Wf μ) : Ob μ 0 11 := Ob.mk hw (by decide) (by decide +kernel)
theorem cr_0_0 {μ : Wd} (hw : Wf μ) : gR μ 0 0 = some 1 := hw.2 _ _ _ (by decide +kernel)
theorem cr_0_2 {μ : Wd} (hw : Wf μ) : gR μ 0 2 = some 2 := hw.2 _ _ _ (by decide +kernel)
theorem cr_0_7 {μ : Wd} (hw : Wf μ) : gR μ 0 7 = some 24 := hw.2 _ _ _ (by decide +kernel)
theorem cr_0_8 {μ : Wd} (hw : Wf μ) : gR μ 0 8 = some 41 := hw.2 _ _ _ (by decide +kernel)
theorem cr_0_10 {μ : Wd} (hw : Wf μ) : gR μ 0 10 = some 79 := hw.2 _ _ _ (by decide +kernel)
theorem cr_0_11 {μ : Wd} (hw : Wf μ) : gR μ 0 11 = some 82 := hw.2 _ _ _ (by decide +kernel)
theorem cr_0_12 {μ : Wd} (hw : Wf μ) : gR μ 0 12 = some 288 := hw.2 _ _ _ (by decide +kernel)
theorem cr_0_13 {μ : Wd} (hw : Wf μ) : gR μ 0 13 = some 323 := hw.2 _ _ _ (by decide +kernel)
theorem cr_0_14 {μ : Wd} (hw : Wf μ) : gR μ 0 14 = some 324 := hw.2 _ _ _ (by decide +kernel)
theorem cr_0_15 {μ : Wd} (hw : Wf μ) : gR μ 0 15 = some 327 := hw.2 _ _ _ (by decide +kernel)
theorem cr_0_16 {μ : Wd} (hw : Wf μ) : gR μ 0 16 = some 334 := hw.2 _ _ _ (by decide +kernel)
theorem co_79 {μ : Wd} (hw : Wf μ) : Ob μ 79 3 := Ob.mk hw (by decide) (by decide +kernel)
theorem cr_79_0 {μ : Wd} (hw : Wf μ) : gR μ 79 0 = some 80 := hw.2 _ _ _ (by decide +kernel)
theorem co_80 {μ : Wd} (hw : Wf μ) : Ob μ 80 10 := Ob.mk hw (by decide) (by decide +kernel)
theorem co_82 {μ : Wd} (hw : Wf μ) : Ob μ 82 4 := Ob.mk hw (by decide) (by decide +kernel)
theorem cr_82_0 {μ : Wd} (hw : Wf μ) : gR μ 82 0 = some 83 := hw.2 _ _ _ (by decide +kernel)
theorem co_324 {μ : Wd} (hw : Wf μ) : Ob μ 324 7 := Ob.mk hw (by decide) (by decide +kernel)
theorem cr_324_0 {μ : Wd} (hw : Wf μ) : gR μ 324 0 = some 325 := hw.2 _ _ _ (by decide +kernel)
theorem cr_324_1 {μ : Wd} (hw : Wf μ) : gR μ 324 1 = some 326 := hw.2 _ _ _ (by decide +kernel)
theorem co_327 {μ : Wd} (hw : Wf μ) : Ob μ 327 5 := Ob.mk hw (by decide) (by decide +kernel)
theorem cr_327_2 {μ : Wd} (hw : Wf μ) : gR μ 327 2 = some 328 := hw.2 _ _ _ (by decide +kernel)
theorem cr_327_3 {μ : Wd} (hw : Wf μ) : gR μ 327 3 = some 329 := hw.2 _ _ _ (by decide +kernel)
theorem cr_327_4 {μ : Wd} (hw : Wf μ) : gR μ 327 4 = some 330 := hw.2 _ _ _ (by decide +kernel)
theorem cr_327_5 {μ : Wd} (hw : Wf μ) : gR μ 327 5 = some 331 := hw.2 _ _ _ (by decide +kernel)
theorem cr_327_6 {μ : Wd} (hw : Wf μ) : gR μ 327 6 = some 332 := hw.2 _ _ _ (by decide +kernel)
theorem cr_327_7 {μ : Wd} (hw : Wf μ) : gR μ 327 7 = some 333 := hw.2 _ _ _ (by decide +kernel)
theorem co_334 {μ : Wd} (hw : Wf μ) : Ob μ 334 9 := Ob.mk hw (by decide) (by decide +kernel)
theorem cr_334_0 {μ : Wd} (hw : Wf μ) : gR μ 334 0 = some 335 := hw.2 _ _ _ (by decide +kernel)
theorem cr_334_1 {μ : Wd} (hw : Wf μ) : gR μ 334 1 = some 336 := hw.2 _ _ _ (by decide +kernel)
theorem cr_334_2 {μ : Wd} (hw : Wf μ) : gR μ 334 2 = some 337 := hw.2 _ _ _ (by decide +kernel)
theorem ca_1 {μ : Wd} (hw : Wf μ) : Ar μ 1 22 900 := Ar.mk hw (by decide) (by decide +kernel) (by decide +kernel)
theorem ca_2 {μ : Wd} (hw : Wf μ) : Ar μ 2 22 120 := Ar.mk hw (by decide) (by decide +kernel) (by decide +kernel)
theorem ca_81 {μ : Wd} (hw : Wf μ) : Ar μ 81 22 0 := Ar.mk hw (by decide) (by decide +kernel) (by decide +kernel)
theorem ca_83 {μ : Wd} (hw : Wf μ) : Ar μ 83 27 12 := Ar.mk hw (by decide) (by decide +kernel) (by decide +kernel)
theorem ca_288 {μ : Wd} (hw : Wf μ) : Ar μ 288 27 2 := Ar.mk hw (by decide) (by decide +kernel) (by decide +kernel)
theorem ca_323 {μ : Wd} (hw : Wf μ) : Ar μ 323 23 2 := Ar.mk hw (by decide) (by decide +kernel) (by decide +kernel)
theorem ca_325 {μ : Wd} (hw : Wf μ) : Ar μ 325 20 12 := Ar.mk hw (by decide) (by decide +kernel) (by decide +kernel)
theorem ca_326 {μ : Wd} (hw : Wf μ) : Ar μ 326 20 12 := Ar.mk hw (by decide) (by decide +kernel) (by decide +kernel)
theorem ca_328 {μ : Wd} (hw : Wf μ) : Ar μ 328 20 40 := Ar.mk hw (by decide) (by decide +kernel) (by decide +kernel)
theorem ca_329 {μ : Wd} (hw : Wf μ) : Ar μ 329 20 40 := Ar.mk hw (by decide) (by decide +kernel) (by decide +kernel)
theorem ca_330 {μ : Wd} (hw : Wf μ) : Ar μ 330 20 12 := Ar.mk hw (by decide) (by decide +kernel) (by decide +kernel)
theorem ca_331 {μ : Wd} (hw : Wf μ) : Ar μ 331 20 12 := Ar.mk hw (by decide) (by decide +kernel) (by decide +kernel)
theorem ca_332 {μ : Wd} (hw : Wf μ) : Ar μ 332 20 12 := Ar.mk hw (by decide) (by decide +kernel) (by decide +kernel)
theorem ca_333 {μ : Wd} (hw : Wf μ) : Ar μ 333 20 12 := Ar.mk hw (by decide) (by decide +kernel) (by decide +kernel)
theorem ca_335 {μ : Wd} (hw : Wf μ) : Ar μ 335 20 40 := Ar.mk hw (by decide) (by decide +kernel) (by decide +kernel)
theorem ca_336 {μ : Wd} (hw : Wf μ) : Ar μ 336 20 12 := Ar.mk hw (by decide) (by decide +kernel) (by decide +kernel)
theorem ca_337 {μ : Wd} (hw : Wf μ) : Ar μ 337 20 12 := Ar.mk hw (by decide) (by decide +kernel) (by decide +kernel)
theorem ca_338 {μ : Wd} (hw : Wf μ) : Ar μ 338 20 1 := Ar.mk hw (by decide) (by decide +kernel) (by decide +kernel)
/-- an index that is a number -/
theorem ixn {m n : Nat} (h : m < n) (hn : n ≤ 4096) : Ix (nI m) m n := ⟨nI_in h (by omega), nI_clamp (by omega), h⟩
theorem nI_eqI {a b : Nat} (ha : a < 2 ^ 31) (hb : b < 2 ^ 31) : nI a = nI b ↔ a = b := by
  refine ⟨fun h => ?_, fun h => h ▸ rfl⟩
  have := congrArg Int32.toInt h
  rw [nI_toInt ha, nI_toInt hb] at this
  omega
section WALKS
variable {Y : Yd} {rm : Room} {b : Nat × Nat} {μ μ1 : Wd} {pc : Nat} {la : List (Nat × Value)} {st : List Value} {o : Oc}
/-- a counter goes on -/
theorem a_iincN {j m : Nat} (hd : decode Y.2.1 pc = .ok (.iinc j 1, 3)) (hl : lk la j = some (.int (nI m))) (hn : j < Y.2.2.1) (k : AW Y rm b μ (pc + 3) (st1 la j (.int (nI (m + 1)))) st o μ1) : AW Y rm b μ pc la st o μ1 := by
  refine a_iinc (1 : Int32) hd (by decide) hl hn ?_
  rw [← nI_succ]
  exact k
end WALKS
