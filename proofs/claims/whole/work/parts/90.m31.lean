section M31
variable {G : xG} {ad : Nat → Nat → Nat} {nb : Nat} {b r : Option Nat} {L : Nat → Nat → Nat → Int64} {V : sV} {I : Nat → Nat → Nat → Int32} {d : Nat}
set_option maxRecDepth 100000 in
theorem wix_1 (v : Int64) : wix 1 v = (if pkS 13 = v then nI 0 else -1) := by rfl
set_option maxRecDepth 100000 in
theorem wix_2 (v : Int64) : wix 2 v = (if pkS 26 = v then nI 0 else -1) := by rfl
set_option maxRecDepth 100000 in
theorem wix_4 (v : Int64) : wix 4 v = (if pkS 32 = v then nI 0 else -1) := by rfl
set_option maxRecDepth 100000 in
theorem wix_5 (v : Int64) : wix 5 v = (if pkS 33 = v then nI 0 else -1) := by rfl
set_option maxRecDepth 100000 in
theorem wix_6 (v : Int64) : wix 6 v = (if pkS 25 = v then nI 0 else -1) := by rfl
set_option maxRecDepth 100000 in
theorem wix_7 (v : Int64) : wix 7 v = (if pkS 16 = v then nI 0 else -1) := by rfl
set_option maxRecDepth 100000 in
theorem wix_8 (v : Int64) : wix 8 v = (if pkS 34 = v then nI 0 else -1) := by rfl
set_option maxRecDepth 100000 in
theorem wix_10 (v : Int64) : wix 10 v = (if pkS 39 = v then nI 0 else -1) := by rfl
set_option maxRecDepth 100000 in
theorem wix_11 (v : Int64) : wix 11 v = (if pkS 40 = v then nI 0 else -1) := by rfl
set_option maxRecDepth 100000 in
theorem wix_3 (v : Int64) : wix 3 v = (if pkS 27 = v then nI 0 else if pkS 28 = v then nI 1 else if pkS 29 = v then nI 2 else if pkS 30 = v then nI 3 else if pkS 31 = v then nI 4 else -1) := by rfl
set_option maxRecDepth 100000 in
theorem wix_9 (v : Int64) : wix 9 v = (if pkS 35 = v then nI 0 else if pkS 36 = v then nI 1 else if pkS 37 = v then nI 2 else if pkS 38 = v then nI 3 else -1) := by rfl
set_option maxRecDepth 100000 in
theorem wix_0 (v : Int64) : wix 0 v = (if pkS 12 = v then nI 0 else if pkS 14 = v then nI 1 else if pkS 15 = v then nI 2 else if pkS 16 = v then nI 3 else if pkS 17 = v then nI 4 else if pkS 18 = v then nI 5 else if pkS 19 = v then nI 6 else if pkS 20 = v then nI 7 else if pkS 22 = v then nI 8 else if pkS 23 = v then nI 9 else if pkS 24 = v then nI 10 else if pkS 21 = v then nI 11 else if pkS 25 = v then nI 12 else -1) := by rfl
end M31
