/-! rows of arrays at a written place -/
section GL
variable {cc : ByteArray} {own : String} {nL : Nat} {R : Room} {E : En} {g : GT} {I : Mem} {lv : LV} {st : List Value}
theorem r_ialdL (h : Sem cc own nL R E g) {pc k : Nat} {i : Int32} (j : Nat) (d : decode cc pc = .ok (.iaload, 1)) (hk : k < 184) (hkd : kd k = 12) (hj : i.toNatClampNeg = j) (hin : vp_in i (ln k)) (kk : g I (pc + 1) lv (.int (I k j) :: st)) : g I pc lv (.int i :: .ref (E.1 k) :: st) := r_iald h d hk hkd hin (by rw [hj]; exact kk)
theorem r_iastL (h : Sem cc own nL R E g) {pc k : Nat} {i x : Int32} (j : Nat) (d : decode cc pc = .ok (.iastore, 1)) (hk : k < 184) (hkd : kd k = 12) (hj : i.toNatClampNeg = j) (hin : vp_in i (ln k)) (kk : g (upm I k j x) (pc + 1) lv st) : g I pc lv (.int x :: .int i :: .ref (E.1 k) :: st) := r_iast h d hk hkd hin (by rw [hj]; exact kk)
theorem r_zaldL (h : Sem cc own nL R E g) {pc k : Nat} {i : Int32} (j : Nat) (d : decode cc pc = .ok (.baload, 1)) (hk : k < 184) (hkd : kd k = 13) (hj : i.toNatClampNeg = j) (hin : vp_in i (ln k)) (kk : g I (pc + 1) lv (.int (I k j) :: st)) : g I pc lv (.int i :: .ref (E.1 k) :: st) := r_zald h d hk hkd hin (by rw [hj]; exact kk)
theorem r_zastL (h : Sem cc own nL R E g) {pc k : Nat} {i x : Int32} (j : Nat) (d : decode cc pc = .ok (.bastore, 1)) (hk : k < 184) (hkd : kd k = 13) (hj : i.toNatClampNeg = j) (hin : vp_in i (ln k)) (hx01 : vp_nar .boolean x = x) (kk : g (upm I k j x) (pc + 1) lv st) : g I pc lv (.int x :: .int i :: .ref (E.1 k) :: st) := r_zast h d hk hkd hin hx01 (by rw [hj]; exact kk)
theorem r_nmG {J : Mem} {pc : Nat} (k : ∀ M : Mem, M = J → g M pc lv st) : g J pc lv st := k J rfl
end GL
def heldI (v lo hi : Int32) : Int32 := if v < lo then lo else if hi < v then hi else v
def bandH (h : Int32) : Int32 := if h < 200 then 0 else if h < 500 then 1 else if h < 1000 then 2 else 3
def bandS (s : Int32) : Int32 := if s < 60 then 0 else if s < 120 then 1 else if s < 180 then 2 else 3
def maxI (x y : Int32) : Int32 := if x < y then y else x
def minI (x y : Int32) : Int32 := if y < x then y else x
def absI (x : Int32) : Int32 := if 0 ≤ x then x else -x
def remI (x y : Int32) : Int32 := x - x / y * y
