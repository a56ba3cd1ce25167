/-! what the diggers told, apart from where it lies -/
def Bk : Type := Nat → Nat → Int
def Bk.n (b : Bk) : Nat := (b 99 2).toNat
def Bk.e (b : Bk) : Int := b 99 8
def Bk.rn (b : Bk) : Nat := (b 99 3).toNat
def Bk.tn (b : Bk) : Nat := (b 99 4).toNat
def Bk.pn (b : Bk) : Nat := (b 99 5).toNat
def Bk.cn (b : Bk) : Nat := (b 99 6).toNat
def Bk.dn (b : Bk) : Nat := (b 99 7).toNat
def Bk.dg (b : Bk) : Nat → Int := b 100
def Bk.hx (b : Bk) : Nat → Int := b 101
def Bk.hy (b : Bk) : Nat → Int := b 102
def Bk.dp (b : Bk) : Nat → Int := b 103
def Bk.kn (b : Bk) : Nat → Int := b 104
def Bk.st (b : Bk) : Nat → Int := b 105
def Bk.rO (b : Bk) : Nat → Int := b 106
def Bk.rD (b : Bk) : Nat → Int := b 107
def Bk.rK (b : Bk) : Nat → Int := b 108
def Bk.tr (b : Bk) : Nat → Int := b 109
def Bk.tk (b : Bk) : Nat → Int := b 110
def Bk.pl (b : Bk) : Nat → Int := b 111
def Bk.pd (b : Bk) : Nat → Int := b 112
def Bk.cL (b : Bk) : Nat → Int := b 113
def Bk.cE (b : Bk) : Nat → Int := b 114
def Bk.cK (b : Bk) : Nat → Int := b 115
def Bk.dO (b : Bk) : Nat → Int := b 116
def Bk.dF (b : Bk) : Nat → Int := b 117
def Bk.dT (b : Bk) : Nat → Int := b 118
def Bk.dK (b : Bk) : Nat → Int := b 119
/-- it lies so in the reference -/
def bM (b : Bk) (V : VV) : Prop := (V 99 2 = b.n) ∧ (V 99 8 = b.e) ∧ (V 99 3 = b.rn) ∧ (V 99 4 = b.tn) ∧ (V 99 5 = b.pn) ∧ (V 99 6 = b.cn) ∧ (V 99 7 = b.dn) ∧ (V 100 = b.dg) ∧ (V 101 = b.hx) ∧ (V 102 = b.hy) ∧ (V 103 = b.dp) ∧ (V 104 = b.kn) ∧ (V 105 = b.st) ∧ (V 106 = b.rO) ∧ (V 107 = b.rD) ∧ (V 108 = b.rK) ∧ (V 109 = b.tr) ∧ (V 110 = b.tk) ∧ (V 111 = b.pl) ∧ (V 112 = b.pd) ∧ (V 113 = b.cL) ∧ (V 114 = b.cE) ∧ (V 115 = b.cK) ∧ (V 116 = b.dO) ∧ (V 117 = b.dF) ∧ (V 118 = b.dT) ∧ (V 119 = b.dK)
theorem bM.n {b : Bk} {V : VV} (h_ : bM b V) : V 99 2 = b.n := h_.1
theorem bM.e {b : Bk} {V : VV} (h_ : bM b V) : V 99 8 = b.e := h_.2.1
theorem bM.rn {b : Bk} {V : VV} (h_ : bM b V) : V 99 3 = b.rn := h_.2.2.1
theorem bM.tn {b : Bk} {V : VV} (h_ : bM b V) : V 99 4 = b.tn := h_.2.2.2.1
theorem bM.pn {b : Bk} {V : VV} (h_ : bM b V) : V 99 5 = b.pn := h_.2.2.2.2.1
theorem bM.cn {b : Bk} {V : VV} (h_ : bM b V) : V 99 6 = b.cn := h_.2.2.2.2.2.1
theorem bM.dn {b : Bk} {V : VV} (h_ : bM b V) : V 99 7 = b.dn := h_.2.2.2.2.2.2.1
theorem bM.dg {b : Bk} {V : VV} (h_ : bM b V) : V 100 = b.dg := h_.2.2.2.2.2.2.2.1
theorem bM.hx {b : Bk} {V : VV} (h_ : bM b V) : V 101 = b.hx := h_.2.2.2.2.2.2.2.2.1
theorem bM.hy {b : Bk} {V : VV} (h_ : bM b V) : V 102 = b.hy := h_.2.2.2.2.2.2.2.2.2.1
theorem bM.dp {b : Bk} {V : VV} (h_ : bM b V) : V 103 = b.dp := h_.2.2.2.2.2.2.2.2.2.2.1
theorem bM.kn {b : Bk} {V : VV} (h_ : bM b V) : V 104 = b.kn := h_.2.2.2.2.2.2.2.2.2.2.2.1
theorem bM.st {b : Bk} {V : VV} (h_ : bM b V) : V 105 = b.st := h_.2.2.2.2.2.2.2.2.2.2.2.2.1
theorem bM.rO {b : Bk} {V : VV} (h_ : bM b V) : V 106 = b.rO := h_.2.2.2.2.2.2.2.2.2.2.2.2.2.1
theorem bM.rD {b : Bk} {V : VV} (h_ : bM b V) : V 107 = b.rD := h_.2.2.2.2.2.2.2.2.2.2.2.2.2.2.1
theorem bM.rK {b : Bk} {V : VV} (h_ : bM b V) : V 108 = b.rK := h_.2.2.2.2.2.2.2.2.2.2.2.2.2.2.2.1
theorem bM.tr {b : Bk} {V : VV} (h_ : bM b V) : V 109 = b.tr := h_.2.2.2.2.2.2.2.2.2.2.2.2.2.2.2.2.1
theorem bM.tk {b : Bk} {V : VV} (h_ : bM b V) : V 110 = b.tk := h_.2.2.2.2.2.2.2.2.2.2.2.2.2.2.2.2.2.1
theorem bM.pl {b : Bk} {V : VV} (h_ : bM b V) : V 111 = b.pl := h_.2.2.2.2.2.2.2.2.2.2.2.2.2.2.2.2.2.2.1
theorem bM.pd {b : Bk} {V : VV} (h_ : bM b V) : V 112 = b.pd := h_.2.2.2.2.2.2.2.2.2.2.2.2.2.2.2.2.2.2.2.1
theorem bM.cL {b : Bk} {V : VV} (h_ : bM b V) : V 113 = b.cL := h_.2.2.2.2.2.2.2.2.2.2.2.2.2.2.2.2.2.2.2.2.1
theorem bM.cE {b : Bk} {V : VV} (h_ : bM b V) : V 114 = b.cE := h_.2.2.2.2.2.2.2.2.2.2.2.2.2.2.2.2.2.2.2.2.2.1
theorem bM.cK {b : Bk} {V : VV} (h_ : bM b V) : V 115 = b.cK := h_.2.2.2.2.2.2.2.2.2.2.2.2.2.2.2.2.2.2.2.2.2.2.1
theorem bM.dO {b : Bk} {V : VV} (h_ : bM b V) : V 116 = b.dO := h_.2.2.2.2.2.2.2.2.2.2.2.2.2.2.2.2.2.2.2.2.2.2.2.1
theorem bM.dF {b : Bk} {V : VV} (h_ : bM b V) : V 117 = b.dF := h_.2.2.2.2.2.2.2.2.2.2.2.2.2.2.2.2.2.2.2.2.2.2.2.2.1
theorem bM.dT {b : Bk} {V : VV} (h_ : bM b V) : V 118 = b.dT := h_.2.2.2.2.2.2.2.2.2.2.2.2.2.2.2.2.2.2.2.2.2.2.2.2.2.1
theorem bM.dK {b : Bk} {V : VV} (h_ : bM b V) : V 119 = b.dK := h_.2.2.2.2.2.2.2.2.2.2.2.2.2.2.2.2.2.2.2.2.2.2.2.2.2.2
/-- and so in the class -/
def bC (b : Bk) (V : VV) : Prop := (V 2 2 = b.n) ∧ (V 1 8 = b.e) ∧ (V 4 2 = b.rn) ∧ (V 6 2 = b.tn) ∧ (V 8 2 = b.pn) ∧ (V 10 2 = b.cn) ∧ (V 12 2 = b.dn) ∧ (∀ h, h < b.n → V 3 (h * 5) = b.dg h ∧ V 3 (h * 5 + 1) = b.hx h ∧ V 3 (h * 5 + 2) = b.hy h ∧ V 3 (h * 5 + 3) = b.dp h ∧ V 3 (h * 5 + 4) = b.kn h ∧ V 14 h = b.st h) ∧ (∀ i, i < b.rn → V 5 (i * 5) = b.rO i ∧ V 5 (i * 5 + 1) = b.rD i ∧ V 5 (i * 5 + 4) = b.rK i) ∧ (∀ i, i < b.tn → V 7 (i * 5) = b.tr (4 * i) ∧ V 7 (i * 5 + 1) = b.tr (4 * i + 1) ∧ V 7 (i * 5 + 2) = b.tr (4 * i + 2) ∧ V 7 (i * 5 + 3) = b.tr (4 * i + 3) ∧ V 7 (i * 5 + 4) = b.tk i) ∧ (∀ i, i < b.pn → V 9 (i * 5) = b.pl (4 * i) ∧ V 9 (i * 5 + 1) = b.pl (4 * i + 1) ∧ V 9 (i * 5 + 2) = b.pl (4 * i + 2) ∧ V 9 (i * 5 + 3) = b.pl (4 * i + 3) ∧ V 9 (i * 5 + 4) = b.pd i) ∧ (∀ i, i < b.cn → V 11 (i * 5) = b.cL i ∧ V 11 (i * 5 + 1) = b.cE i ∧ V 11 (i * 5 + 4) = b.cK i) ∧ (∀ i, i < b.dn → V 13 (i * 5) = b.dO i ∧ V 13 (i * 5 + 1) = b.dF i ∧ V 13 (i * 5 + 2) = b.dT i ∧ V 13 (i * 5 + 4) = b.dK i)
theorem bC.n {b : Bk} {V : VV} (h_ : bC b V) : V 2 2 = b.n := h_.1
theorem bC.e {b : Bk} {V : VV} (h_ : bC b V) : V 1 8 = b.e := h_.2.1
theorem bC.rn {b : Bk} {V : VV} (h_ : bC b V) : V 4 2 = b.rn := h_.2.2.1
theorem bC.tn {b : Bk} {V : VV} (h_ : bC b V) : V 6 2 = b.tn := h_.2.2.2.1
theorem bC.pn {b : Bk} {V : VV} (h_ : bC b V) : V 8 2 = b.pn := h_.2.2.2.2.1
theorem bC.cn {b : Bk} {V : VV} (h_ : bC b V) : V 10 2 = b.cn := h_.2.2.2.2.2.1
theorem bC.dn {b : Bk} {V : VV} (h_ : bC b V) : V 12 2 = b.dn := h_.2.2.2.2.2.2.1
theorem bC.h {b : Bk} {V : VV} (h_ : bC b V) : ∀ h, h < b.n → V 3 (h * 5) = b.dg h ∧ V 3 (h * 5 + 1) = b.hx h ∧ V 3 (h * 5 + 2) = b.hy h ∧ V 3 (h * 5 + 3) = b.dp h ∧ V 3 (h * 5 + 4) = b.kn h ∧ V 14 h = b.st h := h_.2.2.2.2.2.2.2.1
theorem bC.r {b : Bk} {V : VV} (h_ : bC b V) : ∀ i, i < b.rn → V 5 (i * 5) = b.rO i ∧ V 5 (i * 5 + 1) = b.rD i ∧ V 5 (i * 5 + 4) = b.rK i := h_.2.2.2.2.2.2.2.2.1
theorem bC.t {b : Bk} {V : VV} (h_ : bC b V) : ∀ i, i < b.tn → V 7 (i * 5) = b.tr (4 * i) ∧ V 7 (i * 5 + 1) = b.tr (4 * i + 1) ∧ V 7 (i * 5 + 2) = b.tr (4 * i + 2) ∧ V 7 (i * 5 + 3) = b.tr (4 * i + 3) ∧ V 7 (i * 5 + 4) = b.tk i := h_.2.2.2.2.2.2.2.2.2.1
theorem bC.p {b : Bk} {V : VV} (h_ : bC b V) : ∀ i, i < b.pn → V 9 (i * 5) = b.pl (4 * i) ∧ V 9 (i * 5 + 1) = b.pl (4 * i + 1) ∧ V 9 (i * 5 + 2) = b.pl (4 * i + 2) ∧ V 9 (i * 5 + 3) = b.pl (4 * i + 3) ∧ V 9 (i * 5 + 4) = b.pd i := h_.2.2.2.2.2.2.2.2.2.2.1
theorem bC.c {b : Bk} {V : VV} (h_ : bC b V) : ∀ i, i < b.cn → V 11 (i * 5) = b.cL i ∧ V 11 (i * 5 + 1) = b.cE i ∧ V 11 (i * 5 + 4) = b.cK i := h_.2.2.2.2.2.2.2.2.2.2.2.1
theorem bC.d {b : Bk} {V : VV} (h_ : bC b V) : ∀ i, i < b.dn → V 13 (i * 5) = b.dO i ∧ V 13 (i * 5 + 1) = b.dF i ∧ V 13 (i * 5 + 2) = b.dT i ∧ V 13 (i * 5 + 4) = b.dK i := h_.2.2.2.2.2.2.2.2.2.2.2.2
/-- its bounds -/
def bO (b : Bk) : Prop := (b.n ≤ 40) ∧ (0 ≤ b.e ∧ b.e ≤ 5) ∧ (b.rn ≤ 60) ∧ (b.tn ≤ 20) ∧ (b.pn ≤ 20) ∧ (b.cn ≤ 60) ∧ (b.dn ≤ 60) ∧ (∀ h, 0 ≤ b.dg h ∧ b.dg h ≤ 1) ∧ (∀ h, -600 ≤ b.hx h ∧ b.hx h ≤ 1099) ∧ (∀ h, -600 ≤ b.hy h ∧ b.hy h ≤ 1099) ∧ (∀ h, 0 ≤ b.dp h ∧ b.dp h ≤ 200) ∧ (∀ h, 0 ≤ b.kn h ∧ b.kn h ≤ 400) ∧ (∀ h, 0 ≤ b.st h ∧ b.st h ≤ 401) ∧ (∀ h, 0 ≤ b.rO h ∧ b.rO h ≤ 39) ∧ (∀ h, 0 ≤ b.rD h ∧ b.rD h ≤ 200) ∧ (∀ h, 0 ≤ b.rK h ∧ b.rK h ≤ 400) ∧ (∀ h, 0 ≤ b.tr h ∧ b.tr h ≤ 499) ∧ (∀ h, 0 ≤ b.tk h ∧ b.tk h ≤ 400) ∧ (∀ h, 0 ≤ b.pl h ∧ b.pl h ≤ 499) ∧ (∀ h, 0 ≤ b.pd h ∧ b.pd h ≤ 100) ∧ (∀ h, 0 ≤ b.cL h ∧ b.cL h ≤ 39) ∧ (∀ h, 0 ≤ b.cE h ∧ b.cE h ≤ 39) ∧ (∀ h, 0 ≤ b.cK h ∧ b.cK h ≤ 400) ∧ (∀ h, 0 ≤ b.dO h ∧ b.dO h ≤ 39) ∧ (∀ h, 0 ≤ b.dF h ∧ b.dF h ≤ 2000) ∧ (∀ h, 0 ≤ b.dT h ∧ b.dT h ≤ 2000) ∧ (∀ h, 0 ≤ b.dK h ∧ b.dK h ≤ 400)
theorem bO.n {b : Bk} (h_ : bO b) : b.n ≤ 40 := h_.1
theorem bO.e {b : Bk} (h_ : bO b) : 0 ≤ b.e ∧ b.e ≤ 5 := h_.2.1
theorem bO.rn {b : Bk} (h_ : bO b) : b.rn ≤ 60 := h_.2.2.1
theorem bO.tn {b : Bk} (h_ : bO b) : b.tn ≤ 20 := h_.2.2.2.1
theorem bO.pn {b : Bk} (h_ : bO b) : b.pn ≤ 20 := h_.2.2.2.2.1
theorem bO.cn {b : Bk} (h_ : bO b) : b.cn ≤ 60 := h_.2.2.2.2.2.1
theorem bO.dn {b : Bk} (h_ : bO b) : b.dn ≤ 60 := h_.2.2.2.2.2.2.1
theorem bO.dg {b : Bk} (h_ : bO b) : ∀ h, 0 ≤ b.dg h ∧ b.dg h ≤ 1 := h_.2.2.2.2.2.2.2.1
theorem bO.hx {b : Bk} (h_ : bO b) : ∀ h, -600 ≤ b.hx h ∧ b.hx h ≤ 1099 := h_.2.2.2.2.2.2.2.2.1
theorem bO.hy {b : Bk} (h_ : bO b) : ∀ h, -600 ≤ b.hy h ∧ b.hy h ≤ 1099 := h_.2.2.2.2.2.2.2.2.2.1
theorem bO.dp {b : Bk} (h_ : bO b) : ∀ h, 0 ≤ b.dp h ∧ b.dp h ≤ 200 := h_.2.2.2.2.2.2.2.2.2.2.1
theorem bO.kn {b : Bk} (h_ : bO b) : ∀ h, 0 ≤ b.kn h ∧ b.kn h ≤ 400 := h_.2.2.2.2.2.2.2.2.2.2.2.1
theorem bO.st {b : Bk} (h_ : bO b) : ∀ h, 0 ≤ b.st h ∧ b.st h ≤ 401 := h_.2.2.2.2.2.2.2.2.2.2.2.2.1
theorem bO.rO {b : Bk} (h_ : bO b) : ∀ h, 0 ≤ b.rO h ∧ b.rO h ≤ 39 := h_.2.2.2.2.2.2.2.2.2.2.2.2.2.1
theorem bO.rD {b : Bk} (h_ : bO b) : ∀ h, 0 ≤ b.rD h ∧ b.rD h ≤ 200 := h_.2.2.2.2.2.2.2.2.2.2.2.2.2.2.1
theorem bO.rK {b : Bk} (h_ : bO b) : ∀ h, 0 ≤ b.rK h ∧ b.rK h ≤ 400 := h_.2.2.2.2.2.2.2.2.2.2.2.2.2.2.2.1
theorem bO.tr {b : Bk} (h_ : bO b) : ∀ h, 0 ≤ b.tr h ∧ b.tr h ≤ 499 := h_.2.2.2.2.2.2.2.2.2.2.2.2.2.2.2.2.1
theorem bO.tk {b : Bk} (h_ : bO b) : ∀ h, 0 ≤ b.tk h ∧ b.tk h ≤ 400 := h_.2.2.2.2.2.2.2.2.2.2.2.2.2.2.2.2.2.1
theorem bO.pl {b : Bk} (h_ : bO b) : ∀ h, 0 ≤ b.pl h ∧ b.pl h ≤ 499 := h_.2.2.2.2.2.2.2.2.2.2.2.2.2.2.2.2.2.2.1
theorem bO.pd {b : Bk} (h_ : bO b) : ∀ h, 0 ≤ b.pd h ∧ b.pd h ≤ 100 := h_.2.2.2.2.2.2.2.2.2.2.2.2.2.2.2.2.2.2.2.1
theorem bO.cL {b : Bk} (h_ : bO b) : ∀ h, 0 ≤ b.cL h ∧ b.cL h ≤ 39 := h_.2.2.2.2.2.2.2.2.2.2.2.2.2.2.2.2.2.2.2.2.1
theorem bO.cE {b : Bk} (h_ : bO b) : ∀ h, 0 ≤ b.cE h ∧ b.cE h ≤ 39 := h_.2.2.2.2.2.2.2.2.2.2.2.2.2.2.2.2.2.2.2.2.2.1
theorem bO.cK {b : Bk} (h_ : bO b) : ∀ h, 0 ≤ b.cK h ∧ b.cK h ≤ 400 := h_.2.2.2.2.2.2.2.2.2.2.2.2.2.2.2.2.2.2.2.2.2.2.1
theorem bO.dO {b : Bk} (h_ : bO b) : ∀ h, 0 ≤ b.dO h ∧ b.dO h ≤ 39 := h_.2.2.2.2.2.2.2.2.2.2.2.2.2.2.2.2.2.2.2.2.2.2.2.1
theorem bO.dF {b : Bk} (h_ : bO b) : ∀ h, 0 ≤ b.dF h ∧ b.dF h ≤ 2000 := h_.2.2.2.2.2.2.2.2.2.2.2.2.2.2.2.2.2.2.2.2.2.2.2.2.1
theorem bO.dT {b : Bk} (h_ : bO b) : ∀ h, 0 ≤ b.dT h ∧ b.dT h ≤ 2000 := h_.2.2.2.2.2.2.2.2.2.2.2.2.2.2.2.2.2.2.2.2.2.2.2.2.2.1
theorem bO.dK {b : Bk} (h_ : bO b) : ∀ h, 0 ≤ b.dK h ∧ b.dK h ≤ 400 := h_.2.2.2.2.2.2.2.2.2.2.2.2.2.2.2.2.2.2.2.2.2.2.2.2.2.2
theorem bO_of {b : Bk} {V : VV} (h : bM b V) (hB : Bd V) : bO b := by
  have g : ∀ (k : Nat) (lo hi : Int), lay 99 = (0, 11) → clB 11 k = some (lo, hi) → lo ≤ V 99 k ∧ V 99 k ≤ hi := fun k lo hi => hB.2 99 11 k lo hi
  unfold bO
  refine ⟨?_, ?_, ?_, ?_, ?_, ?_, ?_, ?_, ?_, ?_, ?_, ?_, ?_, ?_, ?_, ?_, ?_, ?_, ?_, ?_, ?_, ?_, ?_, ?_, ?_, ?_, ?_⟩
  · have := g 2 0 40 rfl rfl; rw [h.n] at this; omega
  · have := g 8 0 5 rfl rfl; rw [h.e] at this; exact this
  · have := g 3 0 60 rfl rfl; rw [h.rn] at this; omega
  · have := g 4 0 20 rfl rfl; rw [h.tn] at this; omega
  · have := g 5 0 20 rfl rfl; rw [h.pn] at this; omega
  · have := g 6 0 60 rfl rfl; rw [h.cn] at this; omega
  · have := g 7 0 60 rfl rfl; rw [h.dn] at this; omega
  · rw [← h.dg]; exact hB.1 100 0 1 rfl
  · rw [← h.hx]; exact hB.1 101 (-600) 1099 rfl
  · rw [← h.hy]; exact hB.1 102 (-600) 1099 rfl
  · rw [← h.dp]; exact hB.1 103 0 200 rfl
  · rw [← h.kn]; exact hB.1 104 0 400 rfl
  · rw [← h.st]; exact hB.1 105 0 401 rfl
  · rw [← h.rO]; exact hB.1 106 0 39 rfl
  · rw [← h.rD]; exact hB.1 107 0 200 rfl
  · rw [← h.rK]; exact hB.1 108 0 400 rfl
  · rw [← h.tr]; exact hB.1 109 0 499 rfl
  · rw [← h.tk]; exact hB.1 110 0 400 rfl
  · rw [← h.pl]; exact hB.1 111 0 499 rfl
  · rw [← h.pd]; exact hB.1 112 0 100 rfl
  · rw [← h.cL]; exact hB.1 113 0 39 rfl
  · rw [← h.cE]; exact hB.1 114 0 39 rfl
  · rw [← h.cK]; exact hB.1 115 0 400 rfl
  · rw [← h.dO]; exact hB.1 116 0 39 rfl
  · rw [← h.dF]; exact hB.1 117 0 2000 rfl
  · rw [← h.dT]; exact hB.1 118 0 2000 rfl
  · rw [← h.dK]; exact hB.1 119 0 400 rfl
theorem bM_fr {b : Bk} {V V' : VV} (h : bM b V) (f : ∀ c, 100 ≤ c → c ≤ 119 → V' c = V c) (g : ∀ k, 2 ≤ k → k ≤ 8 → V' 99 k = V 99 k) : bM b V' := by
  unfold bM
  refine ⟨?_, ?_, ?_, ?_, ?_, ?_, ?_, ?_, ?_, ?_, ?_, ?_, ?_, ?_, ?_, ?_, ?_, ?_, ?_, ?_, ?_, ?_, ?_, ?_, ?_, ?_, ?_⟩ <;> first | (rw [g _ (by omega) (by omega)]; first | exact h.n | exact h.e | exact h.rn | exact h.tn | exact h.pn | exact h.cn | exact h.dn) | (rw [f _ (by omega) (by omega)]; first | exact h.dg | exact h.hx | exact h.hy | exact h.dp | exact h.kn | exact h.st | exact h.rO | exact h.rD | exact h.rK | exact h.tr | exact h.tk | exact h.pl | exact h.pd | exact h.cL | exact h.cE | exact h.cK | exact h.dO | exact h.dF | exact h.dT | exact h.dK)
theorem bC_fr {b : Bk} {V V' : VV} (h : bC b V) (f : ∀ c, 1 ≤ c → c ≤ 14 → V' c = V c) : bC b V' := by
  unfold bC
  refine ⟨?_, ?_, ?_, ?_, ?_, ?_, ?_, ?_, ?_, ?_, ?_, ?_, ?_⟩
  · rw [f _ (by omega) (by omega)]; exact h.n
  · rw [f _ (by omega) (by omega)]; exact h.e
  · rw [f _ (by omega) (by omega)]; exact h.rn
  · rw [f _ (by omega) (by omega)]; exact h.tn
  · rw [f _ (by omega) (by omega)]; exact h.pn
  · rw [f _ (by omega) (by omega)]; exact h.cn
  · rw [f _ (by omega) (by omega)]; exact h.dn
  · rw [f 3 (by omega) (by omega), f 14 (by omega) (by omega)]; exact h.h
  · rw [f 5 (by omega) (by omega)]; exact h.r
  · rw [f 7 (by omega) (by omega)]; exact h.t
  · rw [f 9 (by omega) (by omega)]; exact h.p
  · rw [f 11 (by omega) (by omega)]; exact h.c
  · rw [f 13 (by omega) (by omega)]; exact h.d
/-! what has changed -/
def inA (A : List (Nat × Nat)) (k : Nat) : Bool := A.any fun p => Nat.ble p.1 k && Nat.ble k p.2
def inF (F : List (Nat × Nat × Nat)) (k j : Nat) : Bool := F.any fun p => Nat.beq p.1 k && (Nat.ble p.2.1 j && Nat.ble j p.2.2)
/-- but for the cells of A and the slots of F all is as before -/
def chg (A : List (Nat × Nat)) (F : List (Nat × Nat × Nat)) (V V' : VV) : Prop := ∀ k j, inA A k = false → inF F k j = false → V' k j = V k j
section
variable {A A' : List (Nat × Nat)} {F F' : List (Nat × Nat × Nat)} {V V1 V' : VV} {c j : Nat} {x : Int}
theorem chg_r : chg A F V V := fun _ _ _ _ => rfl
theorem chg_u (e : V' = uV V1 c j x) (h : (inA A c || inF F c j) = true) (f : chg A F V V1) : chg A F V V' := by
  subst e
  intro k i h1 h2
  rw [uV_ne, f k i h1 h2]
  rintro ⟨rfl, rfl⟩
  rw [h1, h2] at h
  cases h
theorem chg_v {g : Nat → Int} (e : V' = cV V1 c g) (h : inA A c = true) (f : chg A F V V1) : chg A F V V' := by
  subst e
  intro k i h1 h2
  unfold cV
  rw [if_neg, f k i h1 h2]
  rintro rfl
  rw [h1] at h
  cases h
def subC (A : List (Nat × Nat)) (F : List (Nat × Nat × Nat)) (A' : List (Nat × Nat)) (F' : List (Nat × Nat × Nat)) : Bool :=
  (A'.all fun p => A.any fun q => Nat.ble q.1 p.1 && Nat.ble p.2 q.2) && (F'.all fun p => inA A p.1 || F.any fun q => Nat.beq q.1 p.1 && (Nat.ble q.2.1 p.2.1 && Nat.ble p.2.2 q.2.2))
theorem subC_A (h : subC A F A' F' = true) {k : Nat} (hk : inA A k = false) : inA A' k = false := by
  unfold subC at h
  rw [Bool.and_eq_true, List.all_eq_true] at h
  apply Bool.eq_false_iff.mpr
  intro z
  unfold inA at z
  rw [List.any_eq_true] at z
  obtain ⟨p, hp, h1⟩ := z
  have h2 := h.1 p hp
  rw [List.any_eq_true] at h2
  obtain ⟨q, hq, h3⟩ := h2
  have : inA A k = true := by
    unfold inA
    rw [List.any_eq_true]
    refine ⟨q, hq, ?_⟩
    simp at h1 h3 ⊢
    omega
  rw [hk] at this
  cases this
theorem subC_F (h : subC A F A' F' = true) {k i : Nat} (hk : inA A k = false) (hf : inF F k i = false) : inF F' k i = false := by
  unfold subC at h
  rw [Bool.and_eq_true, List.all_eq_true, List.all_eq_true] at h
  apply Bool.eq_false_iff.mpr
  intro z
  unfold inF at z
  rw [List.any_eq_true] at z
  obtain ⟨p, hp, h1⟩ := z
  have h2 := h.2 p hp
  simp at h1
  rw [h1.1] at h2
  rw [Bool.or_eq_true] at h2
  rcases h2 with h2 | h2
  · rw [hk] at h2; cases h2
  · rw [List.any_eq_true] at h2
    obtain ⟨q, hq, h3⟩ := h2
    have : inF F k i = true := by
      unfold inF
      rw [List.any_eq_true]
      refine ⟨q, hq, ?_⟩
      simp at h3 ⊢
      omega
    rw [hf] at this
    cases this
theorem chg_t (f : chg A F V V1) (g : chg A' F' V1 V') (h : subC A F A' F' = true) : chg A F V V' := by
  intro k i h1 h2
  rw [g k i (subC_A h h1) (subC_F h h1 h2), f k i h1 h2]
theorem chg_s (g : chg A' F' V V') (h : subC A F A' F' = true) : chg A F V V' := chg_t chg_r g h
/-- no slot of this cell is touched -/
def offC (A : List (Nat × Nat)) (F : List (Nat × Nat × Nat)) (k : Nat) : Bool := !(inA A k) && F.all fun p => !(Nat.beq p.1 k)
theorem offC_i (h : offC A F c = true) : inA A c = false ∧ ∀ j, inF F c j = false := by
  unfold offC at h
  rw [Bool.and_eq_true, List.all_eq_true] at h
  refine ⟨by simpa using h.1, fun j => ?_⟩
  apply Bool.eq_false_iff.mpr
  intro z
  unfold inF at z
  rw [List.any_eq_true] at z
  obtain ⟨p, hp, h1⟩ := z
  have := h.2 p hp
  simp at h1
  rw [h1.1] at this
  simp at this
theorem chg_k (f : chg A F V V') (h : offC A F c = true) : V' c = V c := by
  funext i
  exact f c i (offC_i h).1 ((offC_i h).2 i)
theorem chg_j (f : chg A F V V') (h : (!(inA A c) && !(inF F c j)) = true) : V' c j = V c j := by
  rw [Bool.and_eq_true] at h
  exact f c j (by simpa using h.1) (by simpa using h.2)
def okM (A : List (Nat × Nat)) (F : List (Nat × Nat × Nat)) : Bool := ((List.range 20).all fun i => offC A F (100 + i)) && ((List.range 7).all fun i => !(inA A 99) && !(inF F 99 (2 + i)))
theorem bM_c {b : Bk} (hb : bM b V) (f : chg A F V V') (h : okM A F = true) : bM b V' := by
  unfold okM at h
  rw [Bool.and_eq_true, List.all_eq_true, List.all_eq_true] at h
  refine bM_fr hb (fun c h1 h2 => ?_) (fun k h1 h2 => ?_)
  · have := h.1 (c - 100) (List.mem_range.mpr (by omega))
    rw [show 100 + (c - 100) = c by omega] at this
    exact chg_k f this
  · have := h.2 (k - 2) (List.mem_range.mpr (by omega))
    rw [show 2 + (k - 2) = k by omega] at this
    exact chg_j f this
def okC (A : List (Nat × Nat)) (F : List (Nat × Nat × Nat)) : Bool := (List.range 14).all fun i => offC A F (1 + i)
theorem bC_c {b : Bk} (hb : bC b V) (f : chg A F V V') (h : okC A F = true) : bC b V' := by
  unfold okC at h
  rw [List.all_eq_true] at h
  refine bC_fr hb (fun c h1 h2 => ?_)
  have := h (c - 1) (List.mem_range.mpr (by omega))
  rw [show 1 + (c - 1) = c by omega] at this
  exact chg_k f this
end
/-- a post: references as before, within bounds, nothing changed but A and F, and P -/
def PQ (A : List (Nat × Nat)) (F : List (Nat × Nat × Nat)) (V : VV) (R : RR) (P : Option AV → VV → Prop) : Option AV → VV → RR → Prop := fun r V' R' => R = R' ∧ Bd V' ∧ chg A F V V' ∧ P r V'
/-! counting, and whether there is one -/
def anyB (p : Nat → Bool) : Nat → Bool
  | 0 => false
  | n + 1 => anyB p n || p n
def cntB (p : Nat → Bool) : Nat → Nat
  | 0 => 0
  | n + 1 => cntB p n + (if p n = true then 1 else 0)
theorem anyB_iff {p : Nat → Bool} : ∀ {n : Nat}, anyB p n = true ↔ ∃ i, i < n ∧ p i = true
  | 0 => by simp [anyB]
  | n + 1 => by
    show (anyB p n || p n) = true ↔ _
    rw [Bool.or_eq_true, anyB_iff]
    constructor
    · rintro (⟨i, h1, h2⟩ | h)
      · exact ⟨i, by omega, h2⟩
      · exact ⟨n, by omega, h⟩
    · rintro ⟨i, h1, h2⟩
      rcases Nat.lt_or_ge i n with h | h
      · exact Or.inl ⟨i, h, h2⟩
      · exact Or.inr (by rw [← (show i = n by omega)]; exact h2)
theorem anyB_f {p : Nat → Bool} {n : Nat} : anyB p n = false ↔ ∀ i, i < n → p i = false := by
  rw [← Bool.not_eq_true, anyB_iff]
  constructor
  · intro h i hi
    exact Bool.eq_false_iff.mpr (fun z => h ⟨i, hi, z⟩)
  · rintro h ⟨i, hi, z⟩
    rw [h i hi] at z; cases z
theorem cntB_le {p : Nat → Bool} : ∀ {n : Nat}, cntB p n ≤ n
  | 0 => Nat.le_refl _
  | n + 1 => by
    have := cntB_le (p := p) (n := n)
    show cntB p n + (if p n = true then 1 else 0) ≤ _
    split <;> omega
theorem cntB_t {p : Nat → Bool} {n : Nat} (h : p n = true) : cntB p (n + 1) = cntB p n + 1 := by show cntB p n + (if p n = true then 1 else 0) = _; rw [if_pos h]
theorem cntB_f {p : Nat → Bool} {n : Nat} (h : ¬ p n = true) : cntB p (n + 1) = cntB p n := by show cntB p n + (if p n = true then 1 else 0) = _; rw [if_neg h]; rfl
theorem cntB_mono {p : Nat → Bool} {m : Nat} : ∀ {n : Nat}, m ≤ n → cntB p m ≤ cntB p n
  | 0, h => by rw [show m = 0 by omega]; exact Nat.le_refl _
  | n + 1, h => by
    rcases Nat.lt_or_ge m (n + 1) with q | q
    · have := cntB_mono (p := p) (m := m) (n := n) (by omega)
      show cntB p m ≤ cntB p n + (if p n = true then 1 else 0)
      omega
    · rw [show m = n + 1 by omega]; exact Nat.le_refl _
theorem cntB_congr {p q : Nat → Bool} : ∀ {n : Nat}, (∀ i, i < n → p i = q i) → cntB p n = cntB q n
  | 0, _ => rfl
  | n + 1, h => by
    show cntB p n + (if p n = true then 1 else 0) = cntB q n + (if q n = true then 1 else 0)
    rw [cntB_congr (fun i hi => h i (by omega)), h n (by omega)]
theorem up_all {p : Nat → Prop} {g : Nat} (h : ∀ i, i < g → p i) (hg : p g) : ∀ i, i < g + 1 → p i := fun i hi => by
  rcases Nat.lt_or_ge i g with q | q
  · exact h i q
  · rw [show i = g by omega]; exact hg
theorem row_s {W W' : VV} {c h : Nat} {f : Nat → Int} {v : Int} (e : W' = uV W c h v) (hv : v = f h) (hW : ∀ i, i < h → W c i = f i) : ∀ i, i < h + 1 → W' c i = f i := by
  subst e hv
  intro i hi
  unfold uV
  by_cases q : i = h
  · subst q; simp
  · rw [if_neg (fun z => q z.2)]; exact hW i (by omega)
/-! frames -/
abbrev thr (b : Bk) (k : Int) (h : Nat) : Prop := b.kn h ≤ k ∧ k < b.st h
def tX (b : Bk) (h : Nat) (t : Int) : Int := if t = 0 then b.hx h else if t = 1 then 499 - b.hy h else if t = 2 then 499 - b.hx h else b.hy h
def tY (b : Bk) (h : Nat) (t : Int) : Int := if t = 0 then b.hy h else if t = 1 then b.hx h else if t = 2 then 499 - b.hy h else 499 - b.hx h
theorem tX_b {b : Bk} {h : Nat} {t : Int} (o : bO b) : -600 ≤ tX b h t ∧ tX b h t ≤ 1099 := by
  have h1 := o.hx h
  have h2 := o.hy h
  unfold tX
  split
  · exact h1
  · split
    · omega
    · split <;> omega
theorem tY_b {b : Bk} {h : Nat} {t : Int} (o : bO b) : -600 ≤ tY b h t ∧ tY b h t ≤ 1099 := by
  have h1 := o.hx h
  have h2 := o.hy h
  unfold tY
  split
  · exact h2
  · split
    · omega
    · split <;> omega
abbrev abI (v : Int) : Int := if v < 0 then -v else v
abbrev nr (b : Bk) (x y x' y' : Int) : Prop := abI (x - x') ≤ b.e ∧ abI (y - y') ≤ b.e
def stk (b : Bk) (k x y : Int) (g : Nat) : Bool := decide (b.dg g = 0 ∧ thr b k g ∧ nr b x y (b.hx g) (b.hy g))
def stks (b : Bk) (k x y : Int) : Bool := anyB (stk b k x y) b.n
def hitP (b : Bk) (k t dx dy : Int) (h : Nat) : Bool := decide (b.dg h = 1 ∧ thr b k h) && stks b k (tX b h t + dx) (tY b h t + dy)
theorem hitP_iff {b : Bk} {k t dx dy : Int} {h : Nat} : hitP b k t dx dy h = true ↔ (b.dg h = 1 ∧ thr b k h) ∧ stks b k (tX b h t + dx) (tY b h t + dy) = true := by
  unfold hitP
  rw [Bool.and_eq_true, decide_eq_true_iff]
def hitN (b : Bk) (k t dx dy : Int) : Nat := cntB (hitP b k t dx dy) b.n
/-- the key of a turn and shift: hits, then nearness -/
def kq (b : Bk) (k : Int) (t x y : Nat) : Int := 41 * (hitN b k t ((x : Int) - 20) ((y : Int) - 20) : Int) + 40 - abI ((x : Int) - 20) - abI ((y : Int) - 20)
def KK (b : Bk) (k : Int) (c : Nat) : Int := kq b k (c / 1681) (c / 41 % 41) (c % 41)
theorem cd_t {t x y : Nat} (hx : x < 41) (hy : y < 41) : (t * 1681 + x * 41 + y) / 1681 = t ∧ (t * 1681 + x * 41 + y) / 41 % 41 = x ∧ (t * 1681 + x * 41 + y) % 41 = y := by omega
theorem KK_at {b : Bk} {k : Int} {t x y : Nat} (hx : x < 41) (hy : y < 41) : KK b k (t * 1681 + x * 41 + y) = kq b k t x y := by
  unfold KK
  rw [(cd_t (t := t) hx hy).1, (cd_t (t := t) hx hy).2.1, (cd_t (t := t) hx hy).2.2]
/-- the first of the greatest -/
def isB (K : Nat → Int) (m c : Nat) : Prop := c < m ∧ ∀ i, i < m → K i ≤ K c ∧ (i < c → K i < K c)
theorem isB_up {K : Nat → Int} {m c : Nat} (h : isB K m c) (q : K c < K m) : isB K (m + 1) m := by
  refine ⟨by omega, fun i hi => ?_⟩
  rcases Nat.lt_or_ge i m with z | z
  · have := (h.2 i z).1
    omega
  · rw [show i = m by omega]; omega
theorem isB_st {K : Nat → Int} {m c : Nat} (h : isB K m c) (q : ¬ K c < K m) : isB K (m + 1) c := by
  refine ⟨by have := h.1; omega, fun i hi => ?_⟩
  rcases Nat.lt_or_ge i m with z | z
  · exact h.2 i z
  · have h1 := h.1
    rw [show i = m by omega]; omega
theorem isB_0 {K : Nat → Int} : isB K 1 0 := ⟨by omega, fun i hi => by rw [show i = 0 by omega]; omega⟩
theorem isB_u {K : Nat → Int} {m c d : Nat} (h : isB K m c) (g : isB K m d) : c = d := by
  have h1 := h.2 d g.1
  have h2 := g.2 c h.1
  omega
