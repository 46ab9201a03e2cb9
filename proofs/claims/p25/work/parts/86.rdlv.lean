/-! THE RELATION is kept as a message is delivered; messages are counted -/
set_option maxHeartbeats 4000000 in
set_option maxRecDepth 100000 in
theorem RR_dlv {O : Of} {M : Int → Int} {z : Int} (h : RR O M) (hz : 0 ≤ z ∧ z < M 2) (hn : M 2 < 149) : RR (bmS O z) (if M (65 + 3 * z) = M 0 then coM M (M (65 + 3 * z + 1) / 100) (M (65 + 3 * z + 1) / 10 % 10) (M (65 + 3 * z + 1) % 10) (M (65 + 3 * z + 2)) else M) := by
  obtain ⟨⟨b1, b2, b3, b4⟩, c1, c3⟩ := h.2.2.2.2.1.2.2 z hz.1 hz.2
  have e0 : O 0 0 = M 0 := h.2.2.2.2.2.2.1.1.1
  unfold bmS
  rw [c1, c3, e0]
  by_cases hd : M (65 + 3 * z) = M 0
  · rw [if_pos hd, if_pos (by omega)]
    generalize M (65 + 3 * z + 2) = t at *
    generalize M (65 + 3 * z + 1) = c at *
    rcases (show c / 100 = 0 ∨ c / 100 = 1 ∨ c / 100 = 2 ∨ c / 100 = 3 by omega) with g | g | g | g
    · have v1 : ctM c t = c / 10 % 10 * 600 + t := by unfold ctM; rw [if_pos g]
      have v2 : coM M (c / 100) (c / 10 % 10) (c % 10) t = mcM M (c / 10 % 10) t := by unfold coM; rw [if_pos g]
      have f1 : (c / 10 % 10 * 600 + t) / 600 / 3 = 0 := by omega
      have f2 : (c / 10 % 10 * 600 + t) / 600 % 3 = c / 10 % 10 := by omega
      have f3 : (c / 10 % 10 * 600 + t) % 600 = t := by omega
      rw [v1, v2, f1, f2, f3]
      unfold dpO
      rw [if_pos rfl]
      exact RR_mcome h (by omega) b3
    · have v1 : ctM c t = (3 + c % 10) * 600 + t := by unfold ctM; rw [g, if_neg (show ¬ (1 : Int) = 0 by decide), if_pos rfl]
      have v2 : coM M (c / 100) (c / 10 % 10) (c % 10) t = qcM M (c / 10 % 10) (c % 10) t := by unfold coM; rw [g, if_neg (show ¬ (1 : Int) = 0 by decide), if_pos rfl]
      have f1 : ((3 + c % 10) * 600 + t) / 600 / 3 = 1 := by omega
      have f2 : ((3 + c % 10) * 600 + t) / 600 % 3 = c % 10 := by omega
      have f3 : ((3 + c % 10) * 600 + t) % 600 = t := by omega
      rw [v1, v2, f1, f2, f3, b4 g]
      unfold dpO
      rw [if_neg (show ¬ (1 : Int) = 0 by decide), if_pos rfl]
      exact RR_qcome h (by omega) (by omega) b3
    · have v1 : ctM c t = (9 + c / 10 % 10) * 600 + t := by unfold ctM; rw [g, if_neg (show ¬ (2 : Int) = 0 by decide), if_neg (show ¬ (2 : Int) = 1 by decide), if_pos rfl]
      have v2 : coM M (c / 100) (c / 10 % 10) (c % 10) t = acM M (c / 10 % 10) t 1 := by unfold coM; rw [g, if_neg (show ¬ (2 : Int) = 0 by decide), if_neg (show ¬ (2 : Int) = 1 by decide), if_pos rfl]
      have f1 : ((9 + c / 10 % 10) * 600 + t) / 600 / 3 = 3 := by omega
      have f2 : ((9 + c / 10 % 10) * 600 + t) / 600 % 3 = c / 10 % 10 := by omega
      have f3 : ((9 + c / 10 % 10) * 600 + t) % 600 = t := by omega
      rw [v1, v2, f1, f2, f3]
      unfold dpO
      rw [if_neg (show ¬ (3 : Int) = 0 by decide), if_neg (show ¬ (3 : Int) = 1 by decide), if_pos rfl]
      exact RR_ycome h (fun _ => hn) (by omega) b3
    · have v1 : ctM c t = (6 + c / 10 % 10) * 600 + t := by unfold ctM; rw [g, if_neg (show ¬ (3 : Int) = 0 by decide), if_neg (show ¬ (3 : Int) = 1 by decide), if_neg (show ¬ (3 : Int) = 2 by decide)]
      have v2 : coM M (c / 100) (c / 10 % 10) (c % 10) t = acM M (c / 10 % 10) t 0 := by unfold coM; rw [g, if_neg (show ¬ (3 : Int) = 0 by decide), if_neg (show ¬ (3 : Int) = 1 by decide), if_neg (show ¬ (3 : Int) = 2 by decide)]
      have f1 : ((6 + c / 10 % 10) * 600 + t) / 600 / 3 = 2 := by omega
      have f2 : ((6 + c / 10 % 10) * 600 + t) / 600 % 3 = c / 10 % 10 := by omega
      have f3 : ((6 + c / 10 % 10) * 600 + t) % 600 = t := by omega
      rw [v1, v2, f1, f2, f3]
      unfold dpO
      rw [if_neg (show ¬ (2 : Int) = 0 by decide), if_neg (show ¬ (2 : Int) = 1 by decide), if_neg (show ¬ (2 : Int) = 3 by decide)]
      exact RR_ncome h (by omega) b3
  · rw [if_neg hd, if_neg (by omega)]
    exact h
/- counting messages -/
abbrev Gw : Type := Nat → Int → Int → Int
def cm (g : Gw) (M : Int → Int) (n : Nat) : Int := sm (fun i => g i (M (65 + 3 * (i : Int))) (M (65 + 3 * (i : Int) + 1))) n
def gM (w d : Int) : Gw := fun _ D C => if C / 100 = 0 ∧ C % 10 = w ∧ d ≤ D then 1 else 0
def gQ (w d : Int) : Gw := fun _ D C => if C / 100 = 1 ∧ C % 10 = w ∧ d ≤ D then 1 else 0
def gR (w d : Int) : Gw := fun _ D C => if 2 ≤ C / 100 ∧ C / 10 % 10 = w ∧ d ≤ D then 1 else 0
def gP (w T : Int) (j : Nat) : Gw := fun i D C => if C / 100 = 1 ∧ C % 10 = w ∧ (T + 1 ≤ D ∨ j ≤ i) then 1 else 0
def gU (T : Int) (j : Nat) : Gw := fun i D C => if C / 100 = 1 ∧ D = T ∧ j ≤ i then 1 else 0
def nM (M : Int → Int) : Nat := (M 2).toNat
def wt (M : Int → Int) (w : Int) : Int := if M (8 + 15 * w + 9) = 0 then 0 else 1
/- messages put behind -/
def Ap0 (M M' : Int → Int) : Prop := M' 0 = M 0 ∧ M' 6 = M 6 ∧ M' 2 = M 2 ∧ ∀ j : Int, 65 ≤ j → j < 65 + 3 * M 2 → M' j = M j
def Ap1 (M M' : Int → Int) (c : Int) : Prop := M' 0 = M 0 ∧ M' 6 = M 6 ∧ M' 2 = M 2 + 1 ∧ (∀ j : Int, 65 ≤ j → j < 65 + 3 * M 2 → M' j = M j) ∧ M' (65 + 3 * M 2) = M 0 + M 6 ∧ M' (65 + 3 * M 2 + 1) = c
set_option maxHeartbeats 4000000 in
set_option maxRecDepth 100000 in
theorem Ap0_refl (M : Int → Int) : Ap0 M M := ⟨rfl, rfl, rfl, fun _ _ _ => rfl⟩
set_option maxHeartbeats 4000000 in
set_option maxRecDepth 100000 in
theorem Ap0_0 {M M' M'' : Int → Int} (h : Ap0 M M') (h' : Ap0 M' M'') : Ap0 M M'' := ⟨by rw [h'.1, h.1], by rw [h'.2.1, h.2.1], by rw [h'.2.2.1, h.2.2.1], fun j j1 j2 => by rw [h'.2.2.2 j j1 (by rw [h.2.2.1]; exact j2), h.2.2.2 j j1 j2]⟩
set_option maxHeartbeats 4000000 in
set_option maxRecDepth 100000 in
theorem Ap0_1 {M M' M'' : Int → Int} {c : Int} (h : Ap0 M M') (h' : Ap1 M' M'' c) : Ap1 M M'' c := by
  obtain ⟨a1, a2, a3, a4⟩ := h
  obtain ⟨b1, b2, b3, b4, b5, b6⟩ := h'
  rw [a3] at b3 b4 b5 b6
  exact ⟨by rw [b1, a1], by rw [b2, a2], b3, fun j j1 j2 => by rw [b4 j j1 j2, a4 j j1 j2], by rw [b5, a1, a2], b6⟩
set_option maxHeartbeats 4000000 in
set_option maxRecDepth 100000 in
theorem Ap1_0 {M M' M'' : Int → Int} {c : Int} (h : Ap1 M M' c) (h' : Ap0 M' M'') (hn : 0 ≤ M 2) : Ap1 M M'' c := by
  obtain ⟨a1, a2, a3, a4, a5, a6⟩ := h
  obtain ⟨b1, b2, b3, b4⟩ := h'
  rw [a3] at b3 b4
  exact ⟨by rw [b1, a1], by rw [b2, a2], b3, fun j j1 j2 => by rw [b4 j j1 (by omega), a4 j j1 j2], by rw [b4 _ (by omega) (by omega), a5], by rw [b4 _ (by omega) (by omega), a6]⟩
set_option maxHeartbeats 4000000 in
set_option maxRecDepth 100000 in
theorem Ap1_sd {M : Int → Int} {a b c t : Int} (hn : 0 ≤ M 2) : Ap1 M (sdM M a b c t) (100 * a + 10 * b + c) :=
  ⟨sd_ne (by omega) (by omega), sd_ne (by omega) (by omega), sdM_2, fun j j1 j2 => sd_ne (by omega) (by omega), (sd_at hn).1, (sd_at hn).2.1⟩
set_option maxHeartbeats 4000000 in
set_option maxRecDepth 100000 in
theorem Ap0_ne {M M' : Int → Int} (h : ∀ j : Int, (j = 0 ∨ j = 2 ∨ j = 6 ∨ (65 ≤ j ∧ j < 65 + 3 * M 2)) → M' j = M j) : Ap0 M M' := ⟨h 0 (by omega), h 6 (by omega), h 2 (by omega), fun j j1 j2 => h j (by omega)⟩
set_option maxHeartbeats 4000000 in
set_option maxRecDepth 100000 in
theorem cm_0 {M M' : Int → Int} (h : Ap0 M M') (hn : 0 ≤ M 2) (g : Gw) : cm g M' (nM M') = cm g M (nM M) := by
  have e : nM M' = nM M := by unfold nM; rw [h.2.2.1]
  rw [e]
  refine sm_congr (fun k hk => ?_)
  unfold nM at hk
  rw [h.2.2.2 _ (by omega) (by omega), h.2.2.2 _ (by omega) (by omega)]
set_option maxHeartbeats 4000000 in
set_option maxRecDepth 100000 in
theorem cm_1 {M M' : Int → Int} {c : Int} (h : Ap1 M M' c) (hn : 0 ≤ M 2) (g : Gw) : cm g M' (nM M') = cm g M (nM M) + g (nM M) (M 0 + M 6) c := by
  obtain ⟨a1, a2, a3, a4, a5, a6⟩ := h
  have e : nM M' = nM M + 1 := by unfold nM; rw [a3]; omega
  have e2 : ((nM M : Nat) : Int) = M 2 := by unfold nM; omega
  rw [e]
  unfold cm
  rw [sm_s, e2, a5, a6]
  congr 1
  refine sm_congr (fun k hk => ?_)
  rw [a4 _ (by omega) (by omega), a4 _ (by omega) (by omega)]
set_option maxHeartbeats 4000000 in
set_option maxRecDepth 100000 in
theorem cm_b {g : Gw} (hg : ∀ i D C, 0 ≤ g i D C) (M : Int → Int) (n : Nat) : 0 ≤ cm g M n := by
  unfold cm
  induction n with
  | zero => exact Int.le_refl _
  | succ n ih =>
    rw [sm_s]
    have := hg n (M (65 + 3 * (n : Int))) (M (65 + 3 * (n : Int) + 1))
    omega
/- what holds while the messages of a tick are delivered, j of them -/
def RJ (M : Int → Int) (j : Nat) : Prop := (∀ w d : Int, 0 ≤ w → w < 3 → M 0 + 1 ≤ d → d ≤ M 0 + 9 → cm (gM w d) M (nM M) + 2 * wt M w ≤ 2 * (M 0 - d + 10) ∧ cm (gQ w d) M (nM M) ≤ M 0 - d + 9 ∧ cm (gR w d) M (nM M) + cm (gP w (M 0) j) M (nM M) ≤ M 0 - d + 18) ∧ M 2 + 2 * (wt M 0 + wt M 1 + wt M 2) + cm (gU (M 0) j) M (nM M) ≤ 141
set_option maxHeartbeats 4000000 in
set_option maxRecDepth 100000 in
theorem wt_b (M : Int → Int) (w : Int) : 0 ≤ wt M w ∧ wt M w ≤ 1 := by
  unfold wt
  split <;> omega
set_option maxHeartbeats 4000000 in
set_option maxRecDepth 100000 in
theorem gU_b (T : Int) (j i : Nat) (D C : Int) : 0 ≤ gU T j i D C := by
  unfold gU
  split <;> omega
set_option maxHeartbeats 4000000 in
set_option maxRecDepth 100000 in
theorem RJ_n {M : Int → Int} {j : Nat} (h : RJ M j) : M 2 ≤ 141 := by
  have b0 := wt_b M 0
  have b1 := wt_b M 1
  have b2 := wt_b M 2
  have b3 := cm_b (gU_b (M 0) j) M (nM M)
  have := h.2
  omega
/- the next j, nothing done -/
set_option maxHeartbeats 4000000 in
set_option maxRecDepth 100000 in
theorem gP_s (w T : Int) (j i : Nat) (D C : Int) : gP w T (j + 1) i D C = gP w T j i D C - (if i = j then (if C / 100 = 1 ∧ C % 10 = w ∧ ¬ (T + 1 ≤ D) then 1 else 0) else 0) := by
  unfold gP
  repeat' split
  all_goals omega
set_option maxHeartbeats 4000000 in
set_option maxRecDepth 100000 in
theorem gU_s (T : Int) (j i : Nat) (D C : Int) : gU T (j + 1) i D C = gU T j i D C - (if i = j then (if C / 100 = 1 ∧ D = T then 1 else 0) else 0) := by
  unfold gU
  repeat' split
  all_goals omega
set_option maxHeartbeats 4000000 in
set_option maxRecDepth 100000 in
theorem cm_drop {g g' : Gw} {M : Int → Int} {j : Nat} {x : Int} (hg : ∀ i : Nat, g' i (M (65 + 3 * (i : Int))) (M (65 + 3 * (i : Int) + 1)) = g i (M (65 + 3 * (i : Int))) (M (65 + 3 * (i : Int) + 1)) - (if i = j then x else 0)) : ∀ n : Nat, cm g' M n = cm g M n - (if j < n then x else 0)
  | 0 => by
    unfold cm
    rw [if_neg (by omega)]
    simp [sm]
  | n + 1 => by
    have ih := cm_drop hg n
    unfold cm at ih ⊢
    rw [sm_s, sm_s, ih, hg n]
    by_cases c1 : j < n
    · rw [if_pos c1, if_pos (show j < n + 1 by omega), if_neg (show ¬ n = j by omega)]; omega
    · rw [if_neg c1]
      by_cases c3 : n = j
      · rw [if_pos c3, if_pos (show j < n + 1 by omega)]; omega
      · rw [if_neg c3, if_neg (show ¬ j < n + 1 by omega)]; omega
set_option maxHeartbeats 4000000 in
set_option maxRecDepth 100000 in
theorem cmP_s (M : Int → Int) (w T : Int) (j n : Nat) : cm (gP w T (j + 1)) M n = cm (gP w T j) M n - (if j < n then (if M (65 + 3 * (j : Int) + 1) / 100 = 1 ∧ M (65 + 3 * (j : Int) + 1) % 10 = w ∧ ¬ (T + 1 ≤ M (65 + 3 * (j : Int))) then 1 else 0) else 0) := by
  refine cm_drop (fun i => ?_) n
  rw [gP_s]
  by_cases c : i = j
  · rw [c]
  · rw [if_neg c, if_neg c]
set_option maxHeartbeats 4000000 in
set_option maxRecDepth 100000 in
theorem cmU_s (M : Int → Int) (T : Int) (j n : Nat) : cm (gU T (j + 1)) M n = cm (gU T j) M n - (if j < n then (if M (65 + 3 * (j : Int) + 1) / 100 = 1 ∧ M (65 + 3 * (j : Int)) = T then 1 else 0) else 0) := by
  refine cm_drop (fun i => ?_) n
  rw [gU_s]
  by_cases c : i = j
  · rw [c]
  · rw [if_neg c, if_neg c]
