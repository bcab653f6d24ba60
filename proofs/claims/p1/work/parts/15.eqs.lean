theorem eq_set {f : Nat → Option Nat} {g v : Int32} : (D_X3_set 0 f S0_X2 S0_X2 g v).1 = (D_X4_set S0_X4 g v).1 := sorry
theorem eq_like {f : Nat → Option Nat} {a b v : Int32} : (D_X3_like 0 f S0_X2 S0_X2 a b v).1 = (D_X4_like S0_X4 a b v).1 := sorry
theorem eq_away {f : Nat → Option Nat} {v al : Int32} : (D_X3_away 0 f S0_X2 S0_X2 v al).1 = (D_X4_away S0_X4 v al).1 := sorry
theorem eq_call {f : Nat → Option Nat} {k : Int32} : (D_X3_call 0 f S0_X2 S0_X2 k).1 = (D_X4_call S0_X4 k).1 := sorry
theorem eq_feed {f : Nat → Option Nat} {v w : Int32} : (D_X3_feed 0 f S0_X2 S0_X2 v w).1 = (D_X4_feed S0_X4 v w).1 := sorry
theorem eq_villager {v w : Int32} : D_X3_villager S0_X2 v w = D_X4_villager S0_X4 v w := sorry
theorem eq_pair {a b w : Int32} : D_X3_pair S0_X2 a b w = D_X4_pair S0_X4 a b w := sorry
theorem eq_partner {v k : Int32} : D_X3_partner S0_X2 v k = D_X4_partner S0_X4 v k := sorry
theorem eq_count {w : Int32} : D_X3_count S0_X2 S0_X1 0 w = D_X4_count S0_X4 w := sorry
theorem eq_ifCalled {k w : Int32} : D_X3_ifCalled S0_X2 k w = D_X4_ifCalled S0_X4 k w := sorry
theorem eq_bestCall {w : Int32} : D_X3_bestCall S0_X2 w = D_X4_bestCall S0_X4 w := sorry
theorem eq_fewestRounds {w : Int32} : D_X3_fewestRounds S0_X2 w = D_X4_fewestRounds S0_X4 w := sorry
theorem eq_untilAllMet : (D_X3_untilAllMet S0_X2 S0_X2).1 = (D_X4_untilAllMet S0_X4).1 := sorry
theorem eq_put {ch : Int64} : (D_X3_put S0_X1 ch).1 = (D_X4_put S0_X4 ch).1 := sorry
theorem eq_wipe : (D_X3_wipe S0_X1).1 = (D_X4_wipe S0_X4).1 := sorry
theorem eq_fault : D_X3_fault S0_X1 = (D_X4_fault S0_X4).1 := sorry
theorem eq_read : D_X3_read S0_X1 = (D_X4_read S0_X4).1 := sorry
theorem eq_undo : D_X3_undo 0 = D_X4_undo S0_X4 := sorry
theorem eq_save {sn : Int32} : D_X3_save S0_X2 (fun _ => none) sn = (D_X4_save S0_X4 sn).1 := sorry
theorem eq_restore {sn : Int32} : D_X3_restore (fun _ => none) sn = D_X4_restore S0_X4 sn := sorry
