/-! plans copied, images, forgetting -/
def PCF (N M : mm_M) (d s : Nat) : Prop := N.1 d 0 = M.1 s 0 ∧ N.1 d 1 = M.1 s 1 ∧ N.1 d 6 = M.1 s 6 ∧ N.1 d 7 = M.1 s 7 ∧ N.1 d 8 = M.1 s 8 ∧ N.1 d 9 = M.1 s 9 ∧ N.1 d 10 = M.1 s 10
def PCA (N M : mm_M) (d s : Nat) (n : Int) : Prop := ∀ b : Nat, (b : Int) < n → N.1 (s_p0 d 2) b = M.1 (s_p0 s 2) b ∧ N.1 (s_p0 d 3) b = M.1 (s_p0 s 3) b ∧ N.1 (s_p0 d 4) b = M.1 (s_p0 s 4) b
def PCC (N M : mm_M) (d s : Nat) (n : Int) : Prop := ∀ i : Nat, (i : Int) < n → N.1 (s_p0 d 5) i = M.1 (s_p0 s 5) i
def PCP (N M : mm_M) (d s : Nat) : Prop := PCF N M d s ∧ PCA N M d s 6 ∧ PCC N M d s (M.1 s 6).toInt
theorem pca_0 (N M : mm_M) (d s : Nat) : b01 (PCA N M d s 0) = 1 := b01_i (fun b h => by omega)
theorem pcc_0 (N M : mm_M) (d s : Nat) : b01 (PCC N M d s 0) = 1 := b01_i (fun b h => by omega)
theorem pca_s {A B C D M : mm_M} {d s : Nat} {n n' : Int} (h : b01 (PCA A M d s n) = 1) (hn : 0 ≤ n ∧ n' = n + 1) (e1 : B = wI A (s_p0 d 2) n.toNat (sI (M.1 (s_p0 s 2) n.toNat).toInt)) (e2 : C = wI B (s_p0 d 3) n.toNat (sI (M.1 (s_p0 s 3) n.toNat).toInt)) (e3 : D = wI C (s_p0 d 4) n.toNat (sI (M.1 (s_p0 s 4) n.toNat).toInt)) (q : s_p0 d 2 ≠ s_p0 d 3 ∧ s_p0 d 2 ≠ s_p0 d 4 ∧ s_p0 d 3 ≠ s_p0 d 4) : b01 (PCA D M d s n') = 1 := b01_i (fun b hb => by
  have k2 : D.1 (s_p0 d 2) = B.1 (s_p0 d 2) := (wI_cell e3 q.2.1).trans (wI_cell e2 q.1)
  have k3 : D.1 (s_p0 d 3) = C.1 (s_p0 d 3) := wI_cell e3 q.2.2
  have j3 : B.1 (s_p0 d 3) = A.1 (s_p0 d 3) := wI_cell e1 (Ne.symm q.1)
  have j4 : C.1 (s_p0 d 4) = A.1 (s_p0 d 4) := (wI_cell e2 (Ne.symm q.2.2)).trans (wI_cell e1 (Ne.symm q.2.1))
  rw [k2, k3]
  by_cases c : b = n.toNat
  · rw [c, wI_at e1, wI_at e2, wI_at e3, sI_o, sI_o, sI_o]; exact ⟨rfl, rfl, rfl⟩
  · have z := b01_e h b (by omega)
    rw [wI_ne e1 c, wI_ne e2 c, wI_ne e3 c, j3, j4]; exact z)
theorem pca_c {A B M : mm_M} {d s : Nat} {n n' : Int} (h : b01 (PCA A M d s n) = 1) (hn : n' ≤ n) (q : B.1 (s_p0 d 2) = A.1 (s_p0 d 2) ∧ B.1 (s_p0 d 3) = A.1 (s_p0 d 3) ∧ B.1 (s_p0 d 4) = A.1 (s_p0 d 4)) : b01 (PCA B M d s n') = 1 := b01_i (fun b hb => by
  rw [q.1, q.2.1, q.2.2]; exact b01_e h b (by omega))
theorem pcc_s {A B M : mm_M} {d s : Nat} {n n' : Int} (h : b01 (PCC A M d s n) = 1) (hn : 0 ≤ n ∧ n' = n + 1) (e : B = wI A (s_p0 d 5) n.toNat (sI (M.1 (s_p0 s 5) n.toNat).toInt)) : b01 (PCC B M d s n') = 1 := b01_i (fun b hb => by
  by_cases c : b = n.toNat
  · rw [c, wI_at e, sI_o]
  · rw [wI_ne e c]; exact b01_e h b (by omega))
theorem pcf_i {N M : mm_M} {d s : Nat} (h0 : (N.1 d 0).toInt = (M.1 s 0).toInt) (h1 : (N.1 d 1).toInt = (M.1 s 1).toInt) (h6 : (N.1 d 6).toInt = (M.1 s 6).toInt) (h7 : (N.1 d 7).toInt = (M.1 s 7).toInt) (h8 : (N.1 d 8).toInt = (M.1 s 8).toInt) (h9 : (N.1 d 9).toInt = (M.1 s 9).toInt) (hA : (N.1 d 10).toInt = (M.1 s 10).toInt) : PCF N M d s := by
  have t : ∀ {a b : Int32}, a.toInt = b.toInt → a = b := fun h => Int32.toInt_inj.mp h
  exact ⟨t h0, t h1, t h6, t h7, t h8, t h9, t hA⟩
theorem pcp_i {N M : mm_M} {d s : Nat} {n : Int} (h : PCF N M d s) (ha : b01 (PCA N M d s 6) = 1) (hc : b01 (PCC N M d s n) = 1) (hn : n = (M.1 s 6).toInt ∨ (M.1 s 6).toInt ≤ n) : b01 (PCP N M d s) = 1 := b01_i ⟨h, b01_e ha, fun i hi => b01_e hc i (by omega)⟩
/-- an array that is one number -/
def FIL (M : mm_M) (c : Nat) (v n : Int) : Prop := ∀ k : Nat, (k : Int) < n → (M.1 c k).toInt = v
theorem fil_0 (M : mm_M) (c : Nat) (v : Int) : b01 (FIL M c v 0) = 1 := b01_i (fun k h => by omega)
theorem fil_s {M N : mm_M} {c : Nat} {v n n' : Int} (h : b01 (FIL M c v n) = 1) (e : N = wI M c n.toNat (sI v)) (q : 0 ≤ n ∧ n' = n + 1 ∧ -2147483648 ≤ v ∧ v ≤ 2147483647) : b01 (FIL N c v n') = 1 := b01_i (fun k hk => by
  by_cases z : k = n.toNat
  · rw [z, wI_at e]; exact sI_t ⟨q.2.2.1, q.2.2.2⟩
  · rw [wI_ne e z]; exact b01_e h k (by omega))
theorem apx_z {M : mm_M} (h : b01 (FIL M 83 0 8) = 1) (p : Nat) : b01 (APX M p) = 1 := b01_i (fun k b o w hk _ _ _ => Or.inl (b01_e h k.toNat (by omega)))
/-- cells that are as they were -/
def SMC (N M : mm_M) (L : List Nat) : Prop := ∀ i ∈ L, N.1 i = M.1 i
theorem smc_f {S : List Nat} {M N : mm_M} {L : List Nat} (h : FX S M N) (q : ∀ i ∈ L, i ∉ S) : b01 (SMC N M L) = 1 := b01_i (fun i hi => h.cell (q i hi))
theorem smc_r (M : mm_M) (L : List Nat) : b01 (SMC M M L) = 1 := b01_i (fun _ _ => rfl)
/-- a plan copied, over what happens around it -/
theorem pcp_m {M B C N : mm_M} {d s : Nat} (h : PCP C B d s) (hs : PLE M B s) (hd : PLE C N d) : b01 (PCP N M d s) = 1 := by
  refine b01_i ?_
  unfold PCP PCF PCA PCC at *
  rw [hd.1, hd.2.1, hd.2.2.1, hd.2.2.2.1, hd.2.2.2.2]
  rw [hs.1, hs.2.1, hs.2.2.1, hs.2.2.2.1, hs.2.2.2.2] at h
  exact h
