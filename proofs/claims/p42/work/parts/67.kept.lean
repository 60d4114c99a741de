/-! how many words are kept at a hill -/
def sp_kept (S : tz_S) (h : Nat) : Nat := if S 5 h < 8 then S 5 h else 8
