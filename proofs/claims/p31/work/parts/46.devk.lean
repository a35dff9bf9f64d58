theorem pr_WF {a : Nat → Int} (hw : WF a) (m : Nat) : WF (pr a m (a 1).toNat) := by
  have b1 := hw.b1
  refine ⟨?_, ?_, ?_, ?_, ?_, ?_, ?_, ?_, ?_⟩
  · rw [pr_out a m _ (fun d _ => by omega)]; exact hw.b0
  · rw [pr_out a m _ (fun d _ => by omega)]; exact hw.b1
  · rw [pr_out a m _ (fun d _ => by omega)]; exact hw.b2
  · rw [pr_out a m _ (fun d _ => by omega)]; exact hw.b3
  · rw [pr_out a m _ (fun d _ => by omega)]; exact hw.b4
  · intro k hk
    rw [pr_out a m _ (fun d _ => by omega), pr_out a m _ (fun d _ => by omega), pr_out a m _ (fun d _ => by omega)]
    exact hw.key hk
  · intro i hi
    rw [pr_out a m _ (fun d _ => by omega)] at hi
    have := hw.b2
    rw [pr_out a m _ (fun d _ => by omega), pr_out a m _ (fun d _ => by omega), pr_out a m _ (fun d _ => by omega), pr_out a m _ (fun d _ => by omega), pr_out a m _ (fun d _ => by omega)]
    exact hw.rcd hi
  · intro d hd
    rw [pr_out a m _ (fun d _ => by omega)] at hd
    rw [pr_out a m _ (fun d _ => by omega), pr_out a m _ (fun d _ => by omega), pr_out a m _ (fun d _ => by omega)]
    exact hw.dev hd
  · intro d hd
    rw [show pr a m (a 1).toNat 1 = a 1 from pr_out a m _ (fun d _ => by omega)]
    have h := hw.on hd
    rcases Nat.lt_or_ge d (a 1).toNat with q | q
    · rw [pr_in a m _ q]
      omega
    · rw [pr_off a m q]
      exact h
