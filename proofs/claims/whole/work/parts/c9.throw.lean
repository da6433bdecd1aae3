/-- what the throwing calls want of the machine -/
def lK.Exc (K : lK) : Prop := K.l.stackTraces = false
theorem lc_element {K : lK} (h : K.Ok) (hx : K.Exc) {t u : Nat} (hf : t + 10 ≤ 601024 ∧ u + 100 ≤ 7293034) {w : aW} (ho : ∃ f : Nat → Int64, w 74 = .inl (1, 1, .inr (.inl f))) {X : aX} {Y : aY} (hI : Inv X Y) {a : Int32} (hin : ∀ v : Int32, v = 1 ∨ v = 2 ∨ v = 3 ∨ v = 4 ∨ v = 5 → vp_in (a + v) K.n) (next : ∀ (w' : aW) (X' : aX) (Y' : aY), (∃ f : Nat → Int64, w' 74 = .inl (1, 1, .inr (.inl f))) → Inv X' Y' → Lw K (t + 10) (u + 100) 1938 (lL a) [] (Wd w' X' Y')) : Lw K t u 1748 (lL a) [] (Wd w X Y) := by
  sorry
theorem lc_toss {K : lK} (h : K.Ok) (hx : K.Exc) {t u : Nat} (hf : t + 10 ≤ 601024 ∧ u + 100 ≤ 7293034) {w : aW} {X : aX} {Y : aY} (hI : Inv X Y) {a : Int32} (hin : ∀ v : Int32, v = 1 ∨ v = 2 ∨ v = 3 ∨ v = 4 ∨ v = 5 → vp_in (a + v) K.n) (next : ∀ (X' : aX) (Y' : aY), Inv X' Y' → Lw K (t + 10) (u + 100) 1938 (lL a) [] (Wd w X' Y')) : Lw K t u 1913 (lL a) [] (Wd w X Y) := by
  sorry
