/-! images of the reference, rows -/
theorem im_x {M B N : mm_M} {f : Nat → Int32} {i : Int} (h : b01 (CPX M B (1181 * (i + 1)).toNat 99 0 1181) = 1) (hB : B.1 99 = f) (hN : N.1 99 = M.1 99) : b01 (N.1 99 = imS f i) = 1 := b01_i (by
  have h := b01_e h
  unfold CPX at h
  rw [hB] at h
  rw [hN]
  funext j
  unfold imS
  by_cases c : (1181 * (i + 1)).toNat ≤ j ∧ j < (1181 * (i + 1)).toNat + 1181
  · rw [if_pos c, h.1 j c.1 (by omega), Nat.zero_add]
  · rw [if_neg c]; exact h.2.1 j (by omega))
theorem re_x {M B N : mm_M} {f : Nat → Int32} {i : Int} (h : b01 (CPX M B 0 99 (1181 * (i + 1)).toNat 1181) = 1) (hB : B.1 99 = f) (e : N = wI M 99 49 (sI 0)) : b01 (N.1 99 = reS f i) = 1 := b01_i (by
  have h := b01_e h
  unfold CPX at h
  rw [hB] at h
  rw [uR_w e]
  funext j
  unfold reS uR
  by_cases c : j < 1181
  · rw [if_pos c]
    by_cases d : j = 49
    · rw [if_pos d, if_pos d]; rfl
    · rw [if_neg d, if_neg d, h.1 j (by omega) (by omega), show j - 0 = j by omega]
  · rw [if_neg c, if_neg (by omega)]; exact h.2.1 j (by omega))
