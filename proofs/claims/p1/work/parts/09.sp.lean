def sp_fault (x : Int32) : Int32 := if x.toInt = 0 then 0 else -1
def sp_waits (x : Int32) : Int32 := if 0 ≤ x.toInt ∧ x.toInt ≤ 20 then 60 else -1
def sp_go (x : Int32) : Int32 := if 0 ≤ x.toInt ∧ x.toInt ≤ 21 then x else -1
def sp_least (x : Int32) : Int32 := if x.toInt = 0 then 0 else if 1 ≤ x.toInt ∧ x.toInt ≤ 4 then -2 else -1
def sp_rule (x : Int32) : Int32 := if 0 ≤ x.toInt ∧ x.toInt ≤ 2 then 0 else -1
def sp_missed (x : Int32) : Int32 := if 0 ≤ x.toInt ∧ x.toInt ≤ 1 then -2 else -1
def sp_tried (x y : Int32) : Int32 := if (0 ≤ x.toInt ∧ x.toInt ≤ 4) ∧ ¬ x.toInt = 2 ∧ y.toInt = 0 then 0 else -1
def sp_known (x : Int32) : Int32 := if -1 ≤ x.toInt ∧ x.toInt ≤ 0 then 1 else 0
def sp_count (x : Int32) : Int32 := if 0 ≤ x.toInt ∧ x.toInt ≤ 15 then 0 else -1
def sp_text (x : Int32) : Int32 := if x.toInt = 0 then 0 else -2
