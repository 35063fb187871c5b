/-! -30 less a fault, as a word of its own: omega can't look into it -/
noncomputable def sbN : Int → Int := Classical.choose (⟨fun x => subI (-30) x, fun _ => rfl⟩ : ∃ g : Int → Int, ∀ x, g x = subI (-30) x)
theorem sbN_e (x : Int) : sbN x = subI (-30) x := Classical.choose_spec (⟨fun x => subI (-30) x, fun _ => rfl⟩ : ∃ g : Int → Int, ∀ x, g x = subI (-30) x) x
theorem sbN_o (b : Int) : b < -2147483617 ∨ 2147483618 < b ∨ sbN b = -30 - b := by rw [sbN_e]; exact sub_o b
section YSB
variable {p : Program} {l : Launch} {e : Env} {R : Room} {s : State} {m : MethodId} {args : Array Value} {below : List Frame} {meth : Method} {c : Code} {cells slots : Nat} {Q : State → Prop} {cc : ByteArray} {nL : Nat} {own : String} {Ts : List Cond} {dC : Nat → ClassId} {dI : Nat → Nat → Nat} {ad : Nat → Nat} {cA : Nat → ClassId} {A : Nat → Prop} {M Kz : mm_M} {pr : Nat → Nat → Bool} {pc : Nat} {lv : List (Nat × Value)} {st : List Value}
theorem y_isubN (C : jj_C p R s m args c cells slots cc nL own Ts dC dI ad cA A) {b : Int} (d : decode cc pc = .ok (.isub, 1)) (k : ∀ r : Int, -2147483648 ≤ r → r ≤ 2147483647 → r = sbN b → jj p l e R s m args below meth c cells slots Q nL dC dI ad cA A M (pc + 1) lv (.int (sI r) :: st)) : jj p l e R s m args below meth c cells slots Q nL dC dI ad cA A M pc lv (.int (sI b) :: .int (sI (-30)) :: st) := z_isub C (sI (sI (-30) - sI b).toInt) (sI_o _).symm d (k _ (sI_r _).1 (sI_r _).2 (sbN_e b).symm)
end YSB
