set_option maxRecDepth 100000 in
set_option maxHeartbeats 4000000 in
theorem st_el0 : ∀ j, j < 12 → (Cond.eq (.elem (Term.field (Term.string RX3 23) "java/lang/String" "value" "[B") (.int (Int32.ofNat j))) (.int ((js_byt 0).getD j 0))) ∈ flatC (Jvm.Cond.and given_1 narrow_1) := by decide +kernel
set_option maxRecDepth 100000 in
set_option maxHeartbeats 4000000 in
theorem st_of0 {s : State} {b : Nat} {A : Nat → Prop} (hgv : (Jvm.Cond.and given_1 narrow_1).before #[Value.ref b] s = true) (hr : (Cond.stringRef RX3 23 (js_tx 0)).before #[Value.ref b] s = true) (hA : ∀ a : Nat, a < s.heap.size → ¬ A a) : ∃ k v : Nat, vk_S 1 [js_len 0] [js_byt 0] (fun _ => k) (fun _ => v) A s s.heap ∧ vk_R (js_own 0) (js_ix 0) (js_tx 0) k s := by
  have hs := flat_of_before _ hgv
  obtain ⟨aK, aV, h1, h2⟩ := vk_Sof (N := 1) (tm := fun _ => (Term.string RX3 23)) (len := [js_len 0]) (byt := [js_byt 0]) (A := A) (args := #[Value.ref b]) (s := s) (fun z hz => by obtain rfl : z = 0 := by omega
                                                                                                                                                                             decide) (fun z hz => hs _ (by decide +kernel)) (fun z hz => hs _ (by decide +kernel)) (fun z hz => hs _ (by decide +kernel)) (fun z hz => by obtain rfl : z = 0 := by omega
                                                                                                                                                                                                                                                                                                                                   exact hs _ (by decide +kernel)) (fun z hz j hj => by obtain rfl : z = 0 := by omega
                                                                                                                                                                                                                                                                                                                                                                                       exact hs _ (st_el0 j hj)) (fun a c ha hc hne => absurd (show a = c by omega) hne) hA
  refine ⟨aK 0, aV 0, ⟨fun z hz => ?_, fun a c ha hc _ => by omega⟩, vk_R.of hr (h2 0 (by decide))⟩
  obtain rfl : z = 0 := by omega
  exact h1.1 0 (by decide)
set_option maxRecDepth 100000 in
set_option maxHeartbeats 4000000 in
theorem st_el1 : ∀ j, j < 119 → (Cond.eq (.elem (Term.field (Term.string RX3 31) "java/lang/String" "value" "[B") (.int (Int32.ofNat j))) (.int ((js_byt 1).getD j 0))) ∈ flatC (Jvm.Cond.and given_1 narrow_1) := by decide +kernel
set_option maxRecDepth 100000 in
set_option maxHeartbeats 4000000 in
theorem st_of1 {s : State} {b : Nat} {A : Nat → Prop} (hgv : (Jvm.Cond.and given_1 narrow_1).before #[Value.ref b] s = true) (hr : (Cond.stringRef RX3 31 (js_tx 1)).before #[Value.ref b] s = true) (hA : ∀ a : Nat, a < s.heap.size → ¬ A a) : ∃ k v : Nat, vk_S 1 [js_len 1] [js_byt 1] (fun _ => k) (fun _ => v) A s s.heap ∧ vk_R (js_own 1) (js_ix 1) (js_tx 1) k s := by
  have hs := flat_of_before _ hgv
  obtain ⟨aK, aV, h1, h2⟩ := vk_Sof (N := 1) (tm := fun _ => (Term.string RX3 31)) (len := [js_len 1]) (byt := [js_byt 1]) (A := A) (args := #[Value.ref b]) (s := s) (fun z hz => by obtain rfl : z = 0 := by omega
                                                                                                                                                                             decide) (fun z hz => hs _ (by decide +kernel)) (fun z hz => hs _ (by decide +kernel)) (fun z hz => hs _ (by decide +kernel)) (fun z hz => by obtain rfl : z = 0 := by omega
                                                                                                                                                                                                                                                                                                                                   exact hs _ (by decide +kernel)) (fun z hz j hj => by obtain rfl : z = 0 := by omega
                                                                                                                                                                                                                                                                                                                                                                                       exact hs _ (st_el1 j hj)) (fun a c ha hc hne => absurd (show a = c by omega) hne) hA
  refine ⟨aK 0, aV 0, ⟨fun z hz => ?_, fun a c ha hc _ => by omega⟩, vk_R.of hr (h2 0 (by decide))⟩
  obtain rfl : z = 0 := by omega
  exact h1.1 0 (by decide)
set_option maxRecDepth 100000 in
set_option maxHeartbeats 4000000 in
theorem st_el2 : ∀ j, j < 88 → (Cond.eq (.elem (Term.field (Term.string RX12 86) "java/lang/String" "value" "[B") (.int (Int32.ofNat j))) (.int ((js_byt 2).getD j 0))) ∈ flatC (Jvm.Cond.and given_1 narrow_1) := by decide +kernel
set_option maxRecDepth 100000 in
set_option maxHeartbeats 4000000 in
theorem st_of2 {s : State} {b : Nat} {A : Nat → Prop} (hgv : (Jvm.Cond.and given_1 narrow_1).before #[Value.ref b] s = true) (hr : (Cond.stringRef RX12 86 (js_tx 2)).before #[Value.ref b] s = true) (hA : ∀ a : Nat, a < s.heap.size → ¬ A a) : ∃ k v : Nat, vk_S 1 [js_len 2] [js_byt 2] (fun _ => k) (fun _ => v) A s s.heap ∧ vk_R (js_own 2) (js_ix 2) (js_tx 2) k s := by
  have hs := flat_of_before _ hgv
  obtain ⟨aK, aV, h1, h2⟩ := vk_Sof (N := 1) (tm := fun _ => (Term.string RX12 86)) (len := [js_len 2]) (byt := [js_byt 2]) (A := A) (args := #[Value.ref b]) (s := s) (fun z hz => by obtain rfl : z = 0 := by omega
                                                                                                                                                                             decide) (fun z hz => hs _ (by decide +kernel)) (fun z hz => hs _ (by decide +kernel)) (fun z hz => hs _ (by decide +kernel)) (fun z hz => by obtain rfl : z = 0 := by omega
                                                                                                                                                                                                                                                                                                                                   exact hs _ (by decide +kernel)) (fun z hz j hj => by obtain rfl : z = 0 := by omega
                                                                                                                                                                                                                                                                                                                                                                                       exact hs _ (st_el2 j hj)) (fun a c ha hc hne => absurd (show a = c by omega) hne) hA
  refine ⟨aK 0, aV 0, ⟨fun z hz => ?_, fun a c ha hc _ => by omega⟩, vk_R.of hr (h2 0 (by decide))⟩
  obtain rfl : z = 0 := by omega
  exact h1.1 0 (by decide)
set_option maxRecDepth 100000 in
set_option maxHeartbeats 4000000 in
theorem st_el3 : ∀ j, j < 12 → (Cond.eq (.elem (Term.field (Term.string RX12 124) "java/lang/String" "value" "[B") (.int (Int32.ofNat j))) (.int ((js_byt 3).getD j 0))) ∈ flatC (Jvm.Cond.and given_1 narrow_1) := by decide +kernel
set_option maxRecDepth 100000 in
set_option maxHeartbeats 4000000 in
theorem st_of3 {s : State} {b : Nat} {A : Nat → Prop} (hgv : (Jvm.Cond.and given_1 narrow_1).before #[Value.ref b] s = true) (hr : (Cond.stringRef RX12 124 (js_tx 3)).before #[Value.ref b] s = true) (hA : ∀ a : Nat, a < s.heap.size → ¬ A a) : ∃ k v : Nat, vk_S 1 [js_len 3] [js_byt 3] (fun _ => k) (fun _ => v) A s s.heap ∧ vk_R (js_own 3) (js_ix 3) (js_tx 3) k s := by
  have hs := flat_of_before _ hgv
  obtain ⟨aK, aV, h1, h2⟩ := vk_Sof (N := 1) (tm := fun _ => (Term.string RX12 124)) (len := [js_len 3]) (byt := [js_byt 3]) (A := A) (args := #[Value.ref b]) (s := s) (fun z hz => by obtain rfl : z = 0 := by omega
                                                                                                                                                                             decide) (fun z hz => hs _ (by decide +kernel)) (fun z hz => hs _ (by decide +kernel)) (fun z hz => hs _ (by decide +kernel)) (fun z hz => by obtain rfl : z = 0 := by omega
                                                                                                                                                                                                                                                                                                                                   exact hs _ (by decide +kernel)) (fun z hz j hj => by obtain rfl : z = 0 := by omega
                                                                                                                                                                                                                                                                                                                                                                                       exact hs _ (st_el3 j hj)) (fun a c ha hc hne => absurd (show a = c by omega) hne) hA
  refine ⟨aK 0, aV 0, ⟨fun z hz => ?_, fun a c ha hc _ => by omega⟩, vk_R.of hr (h2 0 (by decide))⟩
  obtain rfl : z = 0 := by omega
  exact h1.1 0 (by decide)
