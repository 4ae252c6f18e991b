def sw_tab : List (List Bool) := [[false, false, false], [false, false, false, true, true, true, true], [true, true, true, false, false, false], [true, true, true, false, false, false], [true, false, false], [true, true, false, false, false], [true, true, true, true, false, false, false, false, false, false], [true, true, true, true, false], [true, false], [true, true, true, true, true, true, true, true, true, true, false, true, true], [false, false, true, false, false, false, false, true, true, true, true, true, false, false, false, false, true, true, true, false, false, true, true, false, false, true, true, true, false, false, false, false, false, true, true, true, true, true, false, false, false, true, false, true, true, true, true, true, false, false, false, false, false, true, false, true, true, true, true, true, true, true]]
def sw_isR (ci k : Nat) : Bool := (sw_tab.getD ci []).getD k false
def sw_nf (ci : Nat) : Nat := (sw_tab.getD ci []).length
def sw_sk : List Nat := [154, 163, 165, 167, 266]
def sw_sl : List Nat := [7, 3, 2, 2, 4]
def sw_sb : List (List Int32) := [[102, 119, 100, 115, 110, 114, 108], [60, 62, 61], [43, 45], [42, 47], [105, 111, 119, 114]]
def sw_st : List String := ["fwdsnrl", "<>=", "+-", "*/", "iowr"]
