/-! PURE: the Mountain lemmas inside the object -/
theorem xmind_1 (X : aX) (κ : aK) : (xmind X κ).2.1 = κ := rfl
theorem xmind_0 (X : aX) (κ : aK) : (xmind X κ).1 = X.1 := rfl
theorem xmind_2 (X : aX) (κ κ' : aK) : xmind (xmind X κ) κ' = xmind X κ' := rfl
theorem xnow_0 (X : aX) (κ : aK) : (xnow X κ).1 = κ := rfl
theorem xnow_1 (X : aX) (κ : aK) : (xnow X κ).2.1 = X.2.1 := rfl
theorem xnow_2 (X : aX) (κ κ' : aK) : xnow (xnow X κ) κ' = xnow X κ' := rfl
theorem d10 : 1 + 9 < 75 := by decide
theorem d20 : 11 + 9 < 75 := by decide
theorem N_cV {α : Type} (w : aW) (X : aX) (x : Option α) : cV 0 (putX w X) 1 x = x := by
  rw [X_now w X]; exact cV_M d10 _ x
theorem N_gI0 (w : aW) (X : aX) : gI 0 (putX w X) 1 0 = some (X.1.2.1 0) := by
  rw [X_now w X]; exact gI_M0 d10 _
theorem N_gI1 (w : aW) (X : aX) : gI 0 (putX w X) 1 1 = some (nI X.1.1) := by
  rw [X_now w X]; exact gI_M1 d10 _
theorem N_gI2 (w : aW) (X : aX) : gI 0 (putX w X) 1 2 = some (X.1.2.1 1) := by
  rw [X_now w X]; exact gI_M2 d10 _
theorem N_gI3 (w : aW) (X : aX) : gI 0 (putX w X) 1 3 = some (X.1.2.1 2) := by
  rw [X_now w X]; exact gI_M3 d10 _
theorem N_gR4 (w : aW) (X : aX) : gR 0 (putX w X) 1 4 = some 2 := by
  rw [X_now w X]; exact gR_M4 d10 _
theorem N_gR5 (w : aW) (X : aX) : gR 0 (putX w X) 1 5 = some 3 := by
  rw [X_now w X]; exact gR_M5 d10 _
theorem N_gR6 (w : aW) (X : aX) : gR 0 (putX w X) 1 6 = some 4 := by
  rw [X_now w X]; exact gR_M6 d10 _
theorem N_gR7 (w : aW) (X : aX) : gR 0 (putX w X) 1 7 = some 5 := by
  rw [X_now w X]; exact gR_M7 d10 _
theorem N_gR8 (w : aW) (X : aX) : gR 0 (putX w X) 1 8 = some 6 := by
  rw [X_now w X]; exact gR_M8 d10 _
theorem N_gR9 (w : aW) (X : aX) : gR 0 (putX w X) 1 9 = some 7 := by
  rw [X_now w X]; exact gR_M9 d10 _
theorem N_gR10 (w : aW) (X : aX) : gR 0 (putX w X) 1 10 = some 8 := by
  rw [X_now w X]; exact gR_M10 d10 _
theorem N_gR11 (w : aW) (X : aX) : gR 0 (putX w X) 1 11 = some 9 := by
  rw [X_now w X]; exact gR_M11 d10 _
theorem N_gR12 (w : aW) (X : aX) : gR 0 (putX w X) 1 12 = some 10 := by
  rw [X_now w X]; exact gR_M12 d10 _
theorem N_gA0 (w : aW) (X : aX) {i : Nat} (hi : i < 9) : gA (putX w X) 2 (nI i) = some (X.1.2.2 0 i) := by
  rw [X_now w X]; exact gA_M0 d10 _ hi
theorem N_gA1 (w : aW) (X : aX) {i : Nat} (hi : i < 9) : gA (putX w X) 3 (nI i) = some (X.1.2.2 1 i) := by
  rw [X_now w X]; exact gA_M1 d10 _ hi
theorem N_gA2 (w : aW) (X : aX) {i : Nat} (hi : i < 9) : gA (putX w X) 4 (nI i) = some (X.1.2.2 2 i) := by
  rw [X_now w X]; exact gA_M2 d10 _ hi
theorem N_gA3 (w : aW) (X : aX) {i : Nat} (hi : i < 9) : gA (putX w X) 5 (nI i) = some (X.1.2.2 3 i) := by
  rw [X_now w X]; exact gA_M3 d10 _ hi
theorem N_gA4 (w : aW) (X : aX) {i : Nat} (hi : i < 9) : gA (putX w X) 6 (nI i) = some (X.1.2.2 4 i) := by
  rw [X_now w X]; exact gA_M4 d10 _ hi
theorem N_gA5 (w : aW) (X : aX) {i : Nat} (hi : i < 5) : gA (putX w X) 7 (nI i) = some (X.1.2.2 5 i) := by
  rw [X_now w X]; exact gA_M5 d10 _ hi
theorem N_gA6 (w : aW) (X : aX) {i : Nat} (hi : i < 5) : gA (putX w X) 8 (nI i) = some (X.1.2.2 6 i) := by
  rw [X_now w X]; exact gA_M6 d10 _ hi
theorem N_gA7 (w : aW) (X : aX) {i : Nat} (hi : i < 5) : gA (putX w X) 9 (nI i) = some (X.1.2.2 7 i) := by
  rw [X_now w X]; exact gA_M7 d10 _ hi
theorem N_gA8 (w : aW) (X : aX) {i : Nat} (hi : i < 5) : gA (putX w X) 10 (nI i) = some (X.1.2.2 8 i) := by
  rw [X_now w X]; exact gA_M8 d10 _ hi
theorem N_hasBeast (w : aW) (X : aX) (x : Int32) : f_X0_hasBeast 1 x (putX w X) = some (zb (inR x 0 (nI X.1.1 - 1)), putX w X) := by
  rw [X_now w X]; exact p_hasBeast d10 _ x
theorem N_isAlive (w : aW) (X : aX) (x : Int32) : f_X0_isAlive 1 x (putX w X) = some (zb (bitB (X.1.2.1 1) x), putX w X) := by
  rw [X_now w X]; exact p_isAlive d10 _ x
theorem N_calledBy (w : aW) (X : aX) (x : Int32) : f_X0_calledBy 1 x (putX w X) = some (calledK X.1 x, putX w X) := by
  rw [X_now w X]; exact p_calledBy d10 _ x
theorem N_calledByAnybody (w : aW) (X : aX)  : f_X0_calledByAnybody 1  (putX w X) = some (calledAnyK X.1, putX w X) := by
  rw [X_now w X]; exact p_calledByAnybody d10 _
theorem N_needTogether (w : aW) (X : aX) (m : Int32) : f_X0_needTogether 1 m (putX w X) = some (sumK (fun i => bitB m (nI i)) (needK X.1) 9, putX w X) := by
  rw [X_now w X]; exact p_needTogether d10 _ m
theorem N_workTogether (w : aW) (X : aX) (m : Int32) : f_X0_workTogether 1 m (putX w X) = some (sumK (fun i => bitB m (nI i)) (workK X.1) 9, putX w X) := by
  rw [X_now w X]; exact p_workTogether d10 _ m
theorem N_freeOnes (w : aW) (X : aX)  : f_X0_freeOnes 1  (putX w X) = some (freeK X.1, putX w X) := by
  rw [X_now w X]; exact p_freeOnes d10 _
theorem N_passDay (w : aW) {X : aX} (hW : WF X.1) : f_X0_passDay 1 0 (putX w X) = some ((), putX w (xnow X (passK 0 X.1))) := by
  rw [X_now w X, p_passDay0 d10 hW, X_now']
theorem N_passDays (w : aW) {X : aX} (hW : WF X.1) {n : Nat} (hn : n < 1000) : f_X0_passDays 1 (nI n) (putX w X) = some ((), putX w (xnow X (daysK n X.1))) := by
  rw [X_now w X, p_passDays d10 hW hn, X_now']
theorem T_cV {α : Type} (w : aW) (X : aX) (x : Option α) : cV 0 (putX w X) 11 x = x := by
  rw [X_mind w X]; exact cV_M d20 _ x
theorem T_gI0 (w : aW) (X : aX) : gI 0 (putX w X) 11 0 = some (X.2.1.2.1 0) := by
  rw [X_mind w X]; exact gI_M0 d20 _
theorem T_gI1 (w : aW) (X : aX) : gI 0 (putX w X) 11 1 = some (nI X.2.1.1) := by
  rw [X_mind w X]; exact gI_M1 d20 _
theorem T_gI2 (w : aW) (X : aX) : gI 0 (putX w X) 11 2 = some (X.2.1.2.1 1) := by
  rw [X_mind w X]; exact gI_M2 d20 _
theorem T_gI3 (w : aW) (X : aX) : gI 0 (putX w X) 11 3 = some (X.2.1.2.1 2) := by
  rw [X_mind w X]; exact gI_M3 d20 _
theorem T_gR4 (w : aW) (X : aX) : gR 0 (putX w X) 11 4 = some 12 := by
  rw [X_mind w X]; exact gR_M4 d20 _
theorem T_gR5 (w : aW) (X : aX) : gR 0 (putX w X) 11 5 = some 13 := by
  rw [X_mind w X]; exact gR_M5 d20 _
theorem T_gR6 (w : aW) (X : aX) : gR 0 (putX w X) 11 6 = some 14 := by
  rw [X_mind w X]; exact gR_M6 d20 _
theorem T_gR7 (w : aW) (X : aX) : gR 0 (putX w X) 11 7 = some 15 := by
  rw [X_mind w X]; exact gR_M7 d20 _
theorem T_gR8 (w : aW) (X : aX) : gR 0 (putX w X) 11 8 = some 16 := by
  rw [X_mind w X]; exact gR_M8 d20 _
theorem T_gR9 (w : aW) (X : aX) : gR 0 (putX w X) 11 9 = some 17 := by
  rw [X_mind w X]; exact gR_M9 d20 _
theorem T_gR10 (w : aW) (X : aX) : gR 0 (putX w X) 11 10 = some 18 := by
  rw [X_mind w X]; exact gR_M10 d20 _
theorem T_gR11 (w : aW) (X : aX) : gR 0 (putX w X) 11 11 = some 19 := by
  rw [X_mind w X]; exact gR_M11 d20 _
theorem T_gR12 (w : aW) (X : aX) : gR 0 (putX w X) 11 12 = some 20 := by
  rw [X_mind w X]; exact gR_M12 d20 _
theorem T_gA0 (w : aW) (X : aX) {i : Nat} (hi : i < 9) : gA (putX w X) 12 (nI i) = some (X.2.1.2.2 0 i) := by
  rw [X_mind w X]; exact gA_M0 d20 _ hi
theorem T_gA1 (w : aW) (X : aX) {i : Nat} (hi : i < 9) : gA (putX w X) 13 (nI i) = some (X.2.1.2.2 1 i) := by
  rw [X_mind w X]; exact gA_M1 d20 _ hi
theorem T_gA2 (w : aW) (X : aX) {i : Nat} (hi : i < 9) : gA (putX w X) 14 (nI i) = some (X.2.1.2.2 2 i) := by
  rw [X_mind w X]; exact gA_M2 d20 _ hi
theorem T_gA3 (w : aW) (X : aX) {i : Nat} (hi : i < 9) : gA (putX w X) 15 (nI i) = some (X.2.1.2.2 3 i) := by
  rw [X_mind w X]; exact gA_M3 d20 _ hi
theorem T_gA4 (w : aW) (X : aX) {i : Nat} (hi : i < 9) : gA (putX w X) 16 (nI i) = some (X.2.1.2.2 4 i) := by
  rw [X_mind w X]; exact gA_M4 d20 _ hi
theorem T_gA5 (w : aW) (X : aX) {i : Nat} (hi : i < 5) : gA (putX w X) 17 (nI i) = some (X.2.1.2.2 5 i) := by
  rw [X_mind w X]; exact gA_M5 d20 _ hi
theorem T_gA6 (w : aW) (X : aX) {i : Nat} (hi : i < 5) : gA (putX w X) 18 (nI i) = some (X.2.1.2.2 6 i) := by
  rw [X_mind w X]; exact gA_M6 d20 _ hi
theorem T_gA7 (w : aW) (X : aX) {i : Nat} (hi : i < 5) : gA (putX w X) 19 (nI i) = some (X.2.1.2.2 7 i) := by
  rw [X_mind w X]; exact gA_M7 d20 _ hi
theorem T_gA8 (w : aW) (X : aX) {i : Nat} (hi : i < 5) : gA (putX w X) 20 (nI i) = some (X.2.1.2.2 8 i) := by
  rw [X_mind w X]; exact gA_M8 d20 _ hi
theorem T_hasBeast (w : aW) (X : aX) (x : Int32) : f_X0_hasBeast 11 x (putX w X) = some (zb (inR x 0 (nI X.2.1.1 - 1)), putX w X) := by
  rw [X_mind w X]; exact p_hasBeast d20 _ x
theorem T_isAlive (w : aW) (X : aX) (x : Int32) : f_X0_isAlive 11 x (putX w X) = some (zb (bitB (X.2.1.2.1 1) x), putX w X) := by
  rw [X_mind w X]; exact p_isAlive d20 _ x
theorem T_calledBy (w : aW) (X : aX) (x : Int32) : f_X0_calledBy 11 x (putX w X) = some (calledK X.2.1 x, putX w X) := by
  rw [X_mind w X]; exact p_calledBy d20 _ x
theorem T_calledByAnybody (w : aW) (X : aX)  : f_X0_calledByAnybody 11  (putX w X) = some (calledAnyK X.2.1, putX w X) := by
  rw [X_mind w X]; exact p_calledByAnybody d20 _
theorem T_needTogether (w : aW) (X : aX) (m : Int32) : f_X0_needTogether 11 m (putX w X) = some (sumK (fun i => bitB m (nI i)) (needK X.2.1) 9, putX w X) := by
  rw [X_mind w X]; exact p_needTogether d20 _ m
theorem T_workTogether (w : aW) (X : aX) (m : Int32) : f_X0_workTogether 11 m (putX w X) = some (sumK (fun i => bitB m (nI i)) (workK X.2.1) 9, putX w X) := by
  rw [X_mind w X]; exact p_workTogether d20 _ m
theorem T_freeOnes (w : aW) (X : aX)  : f_X0_freeOnes 11  (putX w X) = some (freeK X.2.1, putX w X) := by
  rw [X_mind w X]; exact p_freeOnes d20 _
theorem T_passDay (w : aW) {X : aX} (hW : WF X.2.1) : f_X0_passDay 11 0 (putX w X) = some ((), putX w (xmind X (passK 0 X.2.1))) := by
  rw [X_mind w X, p_passDay0 d20 hW, X_mind']
theorem T_passDays (w : aW) {X : aX} (hW : WF X.2.1) {n : Nat} (hn : n < 1000) : f_X0_passDays 11 (nI n) (putX w X) = some ((), putX w (xmind X (daysK n X.2.1))) := by
  rw [X_mind w X, p_passDays d20 hW hn, X_mind']
