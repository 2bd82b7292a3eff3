/-! Printed by wip/whole/prt.py: functions and walks. -/
def fX6_write (x1 : Int32) (x2 : Int32) (x3 : Int32) (σ : ST) : Option ST :=
  gd (inb x2 (alen 41)) <|
  bR (fX6_pass x1 x2 (σ.1 41 x2.toNatClampNeg) x3 σ) fun σ2 =>
  gd (inb (σ2.1 36 16) (alen 48)) <|
  gd (inb ((setI σ2 48 ((σ2.1 36 16).toNatClampNeg) x1).1 36 16) (alen 49)) <|
  gd (inb ((setI (setI σ2 48 ((σ2.1 36 16).toNatClampNeg) x1) 49 (((setI σ2 48 ((σ2.1 36 16).toNatClampNeg) x1).1 36 16).toNatClampNeg) x2).1 36 16) (alen 50)) <|
  gd (inb ((setI (setI (setI σ2 48 ((σ2.1 36 16).toNatClampNeg) x1) 49 (((setI σ2 48 ((σ2.1 36 16).toNatClampNeg) x1).1 36 16).toNatClampNeg) x2) 50 (((setI (setI σ2 48 ((σ2.1 36 16).toNatClampNeg) x1) 49 (((setI σ2 48 ((σ2.1 36 16).toNatClampNeg) x1).1 36 16).toNatClampNeg) x2).1 36 16).toNatClampNeg) ((setI (setI σ2 48 ((σ2.1 36 16).toNatClampNeg) x1) 49 (((setI σ2 48 ((σ2.1 36 16).toNatClampNeg) x1).1 36 16).toNatClampNeg) x2).1 36 32)).1 36 16) (alen 51)) <|
  gd (inb ((setI (setI (setI (setI σ2 48 ((σ2.1 36 16).toNatClampNeg) x1) 49 (((setI σ2 48 ((σ2.1 36 16).toNatClampNeg) x1).1 36 16).toNatClampNeg) x2) 50 (((setI (setI σ2 48 ((σ2.1 36 16).toNatClampNeg) x1) 49 (((setI σ2 48 ((σ2.1 36 16).toNatClampNeg) x1).1 36 16).toNatClampNeg) x2).1 36 16).toNatClampNeg) ((setI (setI σ2 48 ((σ2.1 36 16).toNatClampNeg) x1) 49 (((setI σ2 48 ((σ2.1 36 16).toNatClampNeg) x1).1 36 16).toNatClampNeg) x2).1 36 32)) 51 (((setI (setI (setI σ2 48 ((σ2.1 36 16).toNatClampNeg) x1) 49 (((setI σ2 48 ((σ2.1 36 16).toNatClampNeg) x1).1 36 16).toNatClampNeg) x2) 50 (((setI (setI σ2 48 ((σ2.1 36 16).toNatClampNeg) x1) 49 (((setI σ2 48 ((σ2.1 36 16).toNatClampNeg) x1).1 36 16).toNatClampNeg) x2).1 36 16).toNatClampNeg) ((setI (setI σ2 48 ((σ2.1 36 16).toNatClampNeg) x1) 49 (((setI σ2 48 ((σ2.1 36 16).toNatClampNeg) x1).1 36 16).toNatClampNeg) x2).1 36 32)).1 36 16).toNatClampNeg) (((setI (setI (setI σ2 48 ((σ2.1 36 16).toNatClampNeg) x1) 49 (((setI σ2 48 ((σ2.1 36 16).toNatClampNeg) x1).1 36 16).toNatClampNeg) x2) 50 (((setI (setI σ2 48 ((σ2.1 36 16).toNatClampNeg) x1) 49 (((setI σ2 48 ((σ2.1 36 16).toNatClampNeg) x1).1 36 16).toNatClampNeg) x2).1 36 16).toNatClampNeg) ((setI (setI σ2 48 ((σ2.1 36 16).toNatClampNeg) x1) 49 (((setI σ2 48 ((σ2.1 36 16).toNatClampNeg) x1).1 36 16).toNatClampNeg) x2).1 36 32)).1 36 32) * ((setI (setI (setI σ2 48 ((σ2.1 36 16).toNatClampNeg) x1) 49 (((setI σ2 48 ((σ2.1 36 16).toNatClampNeg) x1).1 36 16).toNatClampNeg) x2) 50 (((setI (setI σ2 48 ((σ2.1 36 16).toNatClampNeg) x1) 49 (((setI σ2 48 ((σ2.1 36 16).toNatClampNeg) x1).1 36 16).toNatClampNeg) x2).1 36 16).toNatClampNeg) ((setI (setI σ2 48 ((σ2.1 36 16).toNatClampNeg) x1) 49 (((setI σ2 48 ((σ2.1 36 16).toNatClampNeg) x1).1 36 16).toNatClampNeg) x2).1 36 32)).1 36 1))).1 36 16) (alen 52)) <|
  gd (inb ((setI (setI (setI (setI (setI σ2 48 ((σ2.1 36 16).toNatClampNeg) x1) 49 (((setI σ2 48 ((σ2.1 36 16).toNatClampNeg) x1).1 36 16).toNatClampNeg) x2) 50 (((setI (setI σ2 48 ((σ2.1 36 16).toNatClampNeg) x1) 49 (((setI σ2 48 ((σ2.1 36 16).toNatClampNeg) x1).1 36 16).toNatClampNeg) x2).1 36 16).toNatClampNeg) ((setI (setI σ2 48 ((σ2.1 36 16).toNatClampNeg) x1) 49 (((setI σ2 48 ((σ2.1 36 16).toNatClampNeg) x1).1 36 16).toNatClampNeg) x2).1 36 32)) 51 (((setI (setI (setI σ2 48 ((σ2.1 36 16).toNatClampNeg) x1) 49 (((setI σ2 48 ((σ2.1 36 16).toNatClampNeg) x1).1 36 16).toNatClampNeg) x2) 50 (((setI (setI σ2 48 ((σ2.1 36 16).toNatClampNeg) x1) 49 (((setI σ2 48 ((σ2.1 36 16).toNatClampNeg) x1).1 36 16).toNatClampNeg) x2).1 36 16).toNatClampNeg) ((setI (setI σ2 48 ((σ2.1 36 16).toNatClampNeg) x1) 49 (((setI σ2 48 ((σ2.1 36 16).toNatClampNeg) x1).1 36 16).toNatClampNeg) x2).1 36 32)).1 36 16).toNatClampNeg) (((setI (setI (setI σ2 48 ((σ2.1 36 16).toNatClampNeg) x1) 49 (((setI σ2 48 ((σ2.1 36 16).toNatClampNeg) x1).1 36 16).toNatClampNeg) x2) 50 (((setI (setI σ2 48 ((σ2.1 36 16).toNatClampNeg) x1) 49 (((setI σ2 48 ((σ2.1 36 16).toNatClampNeg) x1).1 36 16).toNatClampNeg) x2).1 36 16).toNatClampNeg) ((setI (setI σ2 48 ((σ2.1 36 16).toNatClampNeg) x1) 49 (((setI σ2 48 ((σ2.1 36 16).toNatClampNeg) x1).1 36 16).toNatClampNeg) x2).1 36 32)).1 36 32) * ((setI (setI (setI σ2 48 ((σ2.1 36 16).toNatClampNeg) x1) 49 (((setI σ2 48 ((σ2.1 36 16).toNatClampNeg) x1).1 36 16).toNatClampNeg) x2) 50 (((setI (setI σ2 48 ((σ2.1 36 16).toNatClampNeg) x1) 49 (((setI σ2 48 ((σ2.1 36 16).toNatClampNeg) x1).1 36 16).toNatClampNeg) x2).1 36 16).toNatClampNeg) ((setI (setI σ2 48 ((σ2.1 36 16).toNatClampNeg) x1) 49 (((setI σ2 48 ((σ2.1 36 16).toNatClampNeg) x1).1 36 16).toNatClampNeg) x2).1 36 32)).1 36 1))) 52 (((setI (setI (setI (setI σ2 48 ((σ2.1 36 16).toNatClampNeg) x1) 49 (((setI σ2 48 ((σ2.1 36 16).toNatClampNeg) x1).1 36 16).toNatClampNeg) x2) 50 (((setI (setI σ2 48 ((σ2.1 36 16).toNatClampNeg) x1) 49 (((setI σ2 48 ((σ2.1 36 16).toNatClampNeg) x1).1 36 16).toNatClampNeg) x2).1 36 16).toNatClampNeg) ((setI (setI σ2 48 ((σ2.1 36 16).toNatClampNeg) x1) 49 (((setI σ2 48 ((σ2.1 36 16).toNatClampNeg) x1).1 36 16).toNatClampNeg) x2).1 36 32)) 51 (((setI (setI (setI σ2 48 ((σ2.1 36 16).toNatClampNeg) x1) 49 (((setI σ2 48 ((σ2.1 36 16).toNatClampNeg) x1).1 36 16).toNatClampNeg) x2) 50 (((setI (setI σ2 48 ((σ2.1 36 16).toNatClampNeg) x1) 49 (((setI σ2 48 ((σ2.1 36 16).toNatClampNeg) x1).1 36 16).toNatClampNeg) x2).1 36 16).toNatClampNeg) ((setI (setI σ2 48 ((σ2.1 36 16).toNatClampNeg) x1) 49 (((setI σ2 48 ((σ2.1 36 16).toNatClampNeg) x1).1 36 16).toNatClampNeg) x2).1 36 32)).1 36 16).toNatClampNeg) (((setI (setI (setI σ2 48 ((σ2.1 36 16).toNatClampNeg) x1) 49 (((setI σ2 48 ((σ2.1 36 16).toNatClampNeg) x1).1 36 16).toNatClampNeg) x2) 50 (((setI (setI σ2 48 ((σ2.1 36 16).toNatClampNeg) x1) 49 (((setI σ2 48 ((σ2.1 36 16).toNatClampNeg) x1).1 36 16).toNatClampNeg) x2).1 36 16).toNatClampNeg) ((setI (setI σ2 48 ((σ2.1 36 16).toNatClampNeg) x1) 49 (((setI σ2 48 ((σ2.1 36 16).toNatClampNeg) x1).1 36 16).toNatClampNeg) x2).1 36 32)).1 36 32) * ((setI (setI (setI σ2 48 ((σ2.1 36 16).toNatClampNeg) x1) 49 (((setI σ2 48 ((σ2.1 36 16).toNatClampNeg) x1).1 36 16).toNatClampNeg) x2) 50 (((setI (setI σ2 48 ((σ2.1 36 16).toNatClampNeg) x1) 49 (((setI σ2 48 ((σ2.1 36 16).toNatClampNeg) x1).1 36 16).toNatClampNeg) x2).1 36 16).toNatClampNeg) ((setI (setI σ2 48 ((σ2.1 36 16).toNatClampNeg) x1) 49 (((setI σ2 48 ((σ2.1 36 16).toNatClampNeg) x1).1 36 16).toNatClampNeg) x2).1 36 32)).1 36 1))).1 36 16).toNatClampNeg) ((setI (setI (setI (setI σ2 48 ((σ2.1 36 16).toNatClampNeg) x1) 49 (((setI σ2 48 ((σ2.1 36 16).toNatClampNeg) x1).1 36 16).toNatClampNeg) x2) 50 (((setI (setI σ2 48 ((σ2.1 36 16).toNatClampNeg) x1) 49 (((setI σ2 48 ((σ2.1 36 16).toNatClampNeg) x1).1 36 16).toNatClampNeg) x2).1 36 16).toNatClampNeg) ((setI (setI σ2 48 ((σ2.1 36 16).toNatClampNeg) x1) 49 (((setI σ2 48 ((σ2.1 36 16).toNatClampNeg) x1).1 36 16).toNatClampNeg) x2).1 36 32)) 51 (((setI (setI (setI σ2 48 ((σ2.1 36 16).toNatClampNeg) x1) 49 (((setI σ2 48 ((σ2.1 36 16).toNatClampNeg) x1).1 36 16).toNatClampNeg) x2) 50 (((setI (setI σ2 48 ((σ2.1 36 16).toNatClampNeg) x1) 49 (((setI σ2 48 ((σ2.1 36 16).toNatClampNeg) x1).1 36 16).toNatClampNeg) x2).1 36 16).toNatClampNeg) ((setI (setI σ2 48 ((σ2.1 36 16).toNatClampNeg) x1) 49 (((setI σ2 48 ((σ2.1 36 16).toNatClampNeg) x1).1 36 16).toNatClampNeg) x2).1 36 32)).1 36 16).toNatClampNeg) (((setI (setI (setI σ2 48 ((σ2.1 36 16).toNatClampNeg) x1) 49 (((setI σ2 48 ((σ2.1 36 16).toNatClampNeg) x1).1 36 16).toNatClampNeg) x2) 50 (((setI (setI σ2 48 ((σ2.1 36 16).toNatClampNeg) x1) 49 (((setI σ2 48 ((σ2.1 36 16).toNatClampNeg) x1).1 36 16).toNatClampNeg) x2).1 36 16).toNatClampNeg) ((setI (setI σ2 48 ((σ2.1 36 16).toNatClampNeg) x1) 49 (((setI σ2 48 ((σ2.1 36 16).toNatClampNeg) x1).1 36 16).toNatClampNeg) x2).1 36 32)).1 36 32) * ((setI (setI (setI σ2 48 ((σ2.1 36 16).toNatClampNeg) x1) 49 (((setI σ2 48 ((σ2.1 36 16).toNatClampNeg) x1).1 36 16).toNatClampNeg) x2) 50 (((setI (setI σ2 48 ((σ2.1 36 16).toNatClampNeg) x1) 49 (((setI σ2 48 ((σ2.1 36 16).toNatClampNeg) x1).1 36 16).toNatClampNeg) x2).1 36 16).toNatClampNeg) ((setI (setI σ2 48 ((σ2.1 36 16).toNatClampNeg) x1) 49 (((setI σ2 48 ((σ2.1 36 16).toNatClampNeg) x1).1 36 16).toNatClampNeg) x2).1 36 32)).1 36 1))).1 36 33)).1 36 16) (alen 53)) <|
  gd (isb x3) <|
  some (setI (setI (setI (setI (setI (setI (setI σ2 48 ((σ2.1 36 16).toNatClampNeg) x1) 49 (((setI σ2 48 ((σ2.1 36 16).toNatClampNeg) x1).1 36 16).toNatClampNeg) x2) 50 (((setI (setI σ2 48 ((σ2.1 36 16).toNatClampNeg) x1) 49 (((setI σ2 48 ((σ2.1 36 16).toNatClampNeg) x1).1 36 16).toNatClampNeg) x2).1 36 16).toNatClampNeg) ((setI (setI σ2 48 ((σ2.1 36 16).toNatClampNeg) x1) 49 (((setI σ2 48 ((σ2.1 36 16).toNatClampNeg) x1).1 36 16).toNatClampNeg) x2).1 36 32)) 51 (((setI (setI (setI σ2 48 ((σ2.1 36 16).toNatClampNeg) x1) 49 (((setI σ2 48 ((σ2.1 36 16).toNatClampNeg) x1).1 36 16).toNatClampNeg) x2) 50 (((setI (setI σ2 48 ((σ2.1 36 16).toNatClampNeg) x1) 49 (((setI σ2 48 ((σ2.1 36 16).toNatClampNeg) x1).1 36 16).toNatClampNeg) x2).1 36 16).toNatClampNeg) ((setI (setI σ2 48 ((σ2.1 36 16).toNatClampNeg) x1) 49 (((setI σ2 48 ((σ2.1 36 16).toNatClampNeg) x1).1 36 16).toNatClampNeg) x2).1 36 32)).1 36 16).toNatClampNeg) (((setI (setI (setI σ2 48 ((σ2.1 36 16).toNatClampNeg) x1) 49 (((setI σ2 48 ((σ2.1 36 16).toNatClampNeg) x1).1 36 16).toNatClampNeg) x2) 50 (((setI (setI σ2 48 ((σ2.1 36 16).toNatClampNeg) x1) 49 (((setI σ2 48 ((σ2.1 36 16).toNatClampNeg) x1).1 36 16).toNatClampNeg) x2).1 36 16).toNatClampNeg) ((setI (setI σ2 48 ((σ2.1 36 16).toNatClampNeg) x1) 49 (((setI σ2 48 ((σ2.1 36 16).toNatClampNeg) x1).1 36 16).toNatClampNeg) x2).1 36 32)).1 36 32) * ((setI (setI (setI σ2 48 ((σ2.1 36 16).toNatClampNeg) x1) 49 (((setI σ2 48 ((σ2.1 36 16).toNatClampNeg) x1).1 36 16).toNatClampNeg) x2) 50 (((setI (setI σ2 48 ((σ2.1 36 16).toNatClampNeg) x1) 49 (((setI σ2 48 ((σ2.1 36 16).toNatClampNeg) x1).1 36 16).toNatClampNeg) x2).1 36 16).toNatClampNeg) ((setI (setI σ2 48 ((σ2.1 36 16).toNatClampNeg) x1) 49 (((setI σ2 48 ((σ2.1 36 16).toNatClampNeg) x1).1 36 16).toNatClampNeg) x2).1 36 32)).1 36 1))) 52 (((setI (setI (setI (setI σ2 48 ((σ2.1 36 16).toNatClampNeg) x1) 49 (((setI σ2 48 ((σ2.1 36 16).toNatClampNeg) x1).1 36 16).toNatClampNeg) x2) 50 (((setI (setI σ2 48 ((σ2.1 36 16).toNatClampNeg) x1) 49 (((setI σ2 48 ((σ2.1 36 16).toNatClampNeg) x1).1 36 16).toNatClampNeg) x2).1 36 16).toNatClampNeg) ((setI (setI σ2 48 ((σ2.1 36 16).toNatClampNeg) x1) 49 (((setI σ2 48 ((σ2.1 36 16).toNatClampNeg) x1).1 36 16).toNatClampNeg) x2).1 36 32)) 51 (((setI (setI (setI σ2 48 ((σ2.1 36 16).toNatClampNeg) x1) 49 (((setI σ2 48 ((σ2.1 36 16).toNatClampNeg) x1).1 36 16).toNatClampNeg) x2) 50 (((setI (setI σ2 48 ((σ2.1 36 16).toNatClampNeg) x1) 49 (((setI σ2 48 ((σ2.1 36 16).toNatClampNeg) x1).1 36 16).toNatClampNeg) x2).1 36 16).toNatClampNeg) ((setI (setI σ2 48 ((σ2.1 36 16).toNatClampNeg) x1) 49 (((setI σ2 48 ((σ2.1 36 16).toNatClampNeg) x1).1 36 16).toNatClampNeg) x2).1 36 32)).1 36 16).toNatClampNeg) (((setI (setI (setI σ2 48 ((σ2.1 36 16).toNatClampNeg) x1) 49 (((setI σ2 48 ((σ2.1 36 16).toNatClampNeg) x1).1 36 16).toNatClampNeg) x2) 50 (((setI (setI σ2 48 ((σ2.1 36 16).toNatClampNeg) x1) 49 (((setI σ2 48 ((σ2.1 36 16).toNatClampNeg) x1).1 36 16).toNatClampNeg) x2).1 36 16).toNatClampNeg) ((setI (setI σ2 48 ((σ2.1 36 16).toNatClampNeg) x1) 49 (((setI σ2 48 ((σ2.1 36 16).toNatClampNeg) x1).1 36 16).toNatClampNeg) x2).1 36 32)).1 36 32) * ((setI (setI (setI σ2 48 ((σ2.1 36 16).toNatClampNeg) x1) 49 (((setI σ2 48 ((σ2.1 36 16).toNatClampNeg) x1).1 36 16).toNatClampNeg) x2) 50 (((setI (setI σ2 48 ((σ2.1 36 16).toNatClampNeg) x1) 49 (((setI σ2 48 ((σ2.1 36 16).toNatClampNeg) x1).1 36 16).toNatClampNeg) x2).1 36 16).toNatClampNeg) ((setI (setI σ2 48 ((σ2.1 36 16).toNatClampNeg) x1) 49 (((setI σ2 48 ((σ2.1 36 16).toNatClampNeg) x1).1 36 16).toNatClampNeg) x2).1 36 32)).1 36 1))).1 36 16).toNatClampNeg) ((setI (setI (setI (setI σ2 48 ((σ2.1 36 16).toNatClampNeg) x1) 49 (((setI σ2 48 ((σ2.1 36 16).toNatClampNeg) x1).1 36 16).toNatClampNeg) x2) 50 (((setI (setI σ2 48 ((σ2.1 36 16).toNatClampNeg) x1) 49 (((setI σ2 48 ((σ2.1 36 16).toNatClampNeg) x1).1 36 16).toNatClampNeg) x2).1 36 16).toNatClampNeg) ((setI (setI σ2 48 ((σ2.1 36 16).toNatClampNeg) x1) 49 (((setI σ2 48 ((σ2.1 36 16).toNatClampNeg) x1).1 36 16).toNatClampNeg) x2).1 36 32)) 51 (((setI (setI (setI σ2 48 ((σ2.1 36 16).toNatClampNeg) x1) 49 (((setI σ2 48 ((σ2.1 36 16).toNatClampNeg) x1).1 36 16).toNatClampNeg) x2) 50 (((setI (setI σ2 48 ((σ2.1 36 16).toNatClampNeg) x1) 49 (((setI σ2 48 ((σ2.1 36 16).toNatClampNeg) x1).1 36 16).toNatClampNeg) x2).1 36 16).toNatClampNeg) ((setI (setI σ2 48 ((σ2.1 36 16).toNatClampNeg) x1) 49 (((setI σ2 48 ((σ2.1 36 16).toNatClampNeg) x1).1 36 16).toNatClampNeg) x2).1 36 32)).1 36 16).toNatClampNeg) (((setI (setI (setI σ2 48 ((σ2.1 36 16).toNatClampNeg) x1) 49 (((setI σ2 48 ((σ2.1 36 16).toNatClampNeg) x1).1 36 16).toNatClampNeg) x2) 50 (((setI (setI σ2 48 ((σ2.1 36 16).toNatClampNeg) x1) 49 (((setI σ2 48 ((σ2.1 36 16).toNatClampNeg) x1).1 36 16).toNatClampNeg) x2).1 36 16).toNatClampNeg) ((setI (setI σ2 48 ((σ2.1 36 16).toNatClampNeg) x1) 49 (((setI σ2 48 ((σ2.1 36 16).toNatClampNeg) x1).1 36 16).toNatClampNeg) x2).1 36 32)).1 36 32) * ((setI (setI (setI σ2 48 ((σ2.1 36 16).toNatClampNeg) x1) 49 (((setI σ2 48 ((σ2.1 36 16).toNatClampNeg) x1).1 36 16).toNatClampNeg) x2) 50 (((setI (setI σ2 48 ((σ2.1 36 16).toNatClampNeg) x1) 49 (((setI σ2 48 ((σ2.1 36 16).toNatClampNeg) x1).1 36 16).toNatClampNeg) x2).1 36 16).toNatClampNeg) ((setI (setI σ2 48 ((σ2.1 36 16).toNatClampNeg) x1) 49 (((setI σ2 48 ((σ2.1 36 16).toNatClampNeg) x1).1 36 16).toNatClampNeg) x2).1 36 32)).1 36 1))).1 36 33)) 53 (((setI (setI (setI (setI (setI σ2 48 ((σ2.1 36 16).toNatClampNeg) x1) 49 (((setI σ2 48 ((σ2.1 36 16).toNatClampNeg) x1).1 36 16).toNatClampNeg) x2) 50 (((setI (setI σ2 48 ((σ2.1 36 16).toNatClampNeg) x1) 49 (((setI σ2 48 ((σ2.1 36 16).toNatClampNeg) x1).1 36 16).toNatClampNeg) x2).1 36 16).toNatClampNeg) ((setI (setI σ2 48 ((σ2.1 36 16).toNatClampNeg) x1) 49 (((setI σ2 48 ((σ2.1 36 16).toNatClampNeg) x1).1 36 16).toNatClampNeg) x2).1 36 32)) 51 (((setI (setI (setI σ2 48 ((σ2.1 36 16).toNatClampNeg) x1) 49 (((setI σ2 48 ((σ2.1 36 16).toNatClampNeg) x1).1 36 16).toNatClampNeg) x2) 50 (((setI (setI σ2 48 ((σ2.1 36 16).toNatClampNeg) x1) 49 (((setI σ2 48 ((σ2.1 36 16).toNatClampNeg) x1).1 36 16).toNatClampNeg) x2).1 36 16).toNatClampNeg) ((setI (setI σ2 48 ((σ2.1 36 16).toNatClampNeg) x1) 49 (((setI σ2 48 ((σ2.1 36 16).toNatClampNeg) x1).1 36 16).toNatClampNeg) x2).1 36 32)).1 36 16).toNatClampNeg) (((setI (setI (setI σ2 48 ((σ2.1 36 16).toNatClampNeg) x1) 49 (((setI σ2 48 ((σ2.1 36 16).toNatClampNeg) x1).1 36 16).toNatClampNeg) x2) 50 (((setI (setI σ2 48 ((σ2.1 36 16).toNatClampNeg) x1) 49 (((setI σ2 48 ((σ2.1 36 16).toNatClampNeg) x1).1 36 16).toNatClampNeg) x2).1 36 16).toNatClampNeg) ((setI (setI σ2 48 ((σ2.1 36 16).toNatClampNeg) x1) 49 (((setI σ2 48 ((σ2.1 36 16).toNatClampNeg) x1).1 36 16).toNatClampNeg) x2).1 36 32)).1 36 32) * ((setI (setI (setI σ2 48 ((σ2.1 36 16).toNatClampNeg) x1) 49 (((setI σ2 48 ((σ2.1 36 16).toNatClampNeg) x1).1 36 16).toNatClampNeg) x2) 50 (((setI (setI σ2 48 ((σ2.1 36 16).toNatClampNeg) x1) 49 (((setI σ2 48 ((σ2.1 36 16).toNatClampNeg) x1).1 36 16).toNatClampNeg) x2).1 36 16).toNatClampNeg) ((setI (setI σ2 48 ((σ2.1 36 16).toNatClampNeg) x1) 49 (((setI σ2 48 ((σ2.1 36 16).toNatClampNeg) x1).1 36 16).toNatClampNeg) x2).1 36 32)).1 36 1))) 52 (((setI (setI (setI (setI σ2 48 ((σ2.1 36 16).toNatClampNeg) x1) 49 (((setI σ2 48 ((σ2.1 36 16).toNatClampNeg) x1).1 36 16).toNatClampNeg) x2) 50 (((setI (setI σ2 48 ((σ2.1 36 16).toNatClampNeg) x1) 49 (((setI σ2 48 ((σ2.1 36 16).toNatClampNeg) x1).1 36 16).toNatClampNeg) x2).1 36 16).toNatClampNeg) ((setI (setI σ2 48 ((σ2.1 36 16).toNatClampNeg) x1) 49 (((setI σ2 48 ((σ2.1 36 16).toNatClampNeg) x1).1 36 16).toNatClampNeg) x2).1 36 32)) 51 (((setI (setI (setI σ2 48 ((σ2.1 36 16).toNatClampNeg) x1) 49 (((setI σ2 48 ((σ2.1 36 16).toNatClampNeg) x1).1 36 16).toNatClampNeg) x2) 50 (((setI (setI σ2 48 ((σ2.1 36 16).toNatClampNeg) x1) 49 (((setI σ2 48 ((σ2.1 36 16).toNatClampNeg) x1).1 36 16).toNatClampNeg) x2).1 36 16).toNatClampNeg) ((setI (setI σ2 48 ((σ2.1 36 16).toNatClampNeg) x1) 49 (((setI σ2 48 ((σ2.1 36 16).toNatClampNeg) x1).1 36 16).toNatClampNeg) x2).1 36 32)).1 36 16).toNatClampNeg) (((setI (setI (setI σ2 48 ((σ2.1 36 16).toNatClampNeg) x1) 49 (((setI σ2 48 ((σ2.1 36 16).toNatClampNeg) x1).1 36 16).toNatClampNeg) x2) 50 (((setI (setI σ2 48 ((σ2.1 36 16).toNatClampNeg) x1) 49 (((setI σ2 48 ((σ2.1 36 16).toNatClampNeg) x1).1 36 16).toNatClampNeg) x2).1 36 16).toNatClampNeg) ((setI (setI σ2 48 ((σ2.1 36 16).toNatClampNeg) x1) 49 (((setI σ2 48 ((σ2.1 36 16).toNatClampNeg) x1).1 36 16).toNatClampNeg) x2).1 36 32)).1 36 32) * ((setI (setI (setI σ2 48 ((σ2.1 36 16).toNatClampNeg) x1) 49 (((setI σ2 48 ((σ2.1 36 16).toNatClampNeg) x1).1 36 16).toNatClampNeg) x2) 50 (((setI (setI σ2 48 ((σ2.1 36 16).toNatClampNeg) x1) 49 (((setI σ2 48 ((σ2.1 36 16).toNatClampNeg) x1).1 36 16).toNatClampNeg) x2).1 36 16).toNatClampNeg) ((setI (setI σ2 48 ((σ2.1 36 16).toNatClampNeg) x1) 49 (((setI σ2 48 ((σ2.1 36 16).toNatClampNeg) x1).1 36 16).toNatClampNeg) x2).1 36 32)).1 36 1))).1 36 16).toNatClampNeg) ((setI (setI (setI (setI σ2 48 ((σ2.1 36 16).toNatClampNeg) x1) 49 (((setI σ2 48 ((σ2.1 36 16).toNatClampNeg) x1).1 36 16).toNatClampNeg) x2) 50 (((setI (setI σ2 48 ((σ2.1 36 16).toNatClampNeg) x1) 49 (((setI σ2 48 ((σ2.1 36 16).toNatClampNeg) x1).1 36 16).toNatClampNeg) x2).1 36 16).toNatClampNeg) ((setI (setI σ2 48 ((σ2.1 36 16).toNatClampNeg) x1) 49 (((setI σ2 48 ((σ2.1 36 16).toNatClampNeg) x1).1 36 16).toNatClampNeg) x2).1 36 32)) 51 (((setI (setI (setI σ2 48 ((σ2.1 36 16).toNatClampNeg) x1) 49 (((setI σ2 48 ((σ2.1 36 16).toNatClampNeg) x1).1 36 16).toNatClampNeg) x2) 50 (((setI (setI σ2 48 ((σ2.1 36 16).toNatClampNeg) x1) 49 (((setI σ2 48 ((σ2.1 36 16).toNatClampNeg) x1).1 36 16).toNatClampNeg) x2).1 36 16).toNatClampNeg) ((setI (setI σ2 48 ((σ2.1 36 16).toNatClampNeg) x1) 49 (((setI σ2 48 ((σ2.1 36 16).toNatClampNeg) x1).1 36 16).toNatClampNeg) x2).1 36 32)).1 36 16).toNatClampNeg) (((setI (setI (setI σ2 48 ((σ2.1 36 16).toNatClampNeg) x1) 49 (((setI σ2 48 ((σ2.1 36 16).toNatClampNeg) x1).1 36 16).toNatClampNeg) x2) 50 (((setI (setI σ2 48 ((σ2.1 36 16).toNatClampNeg) x1) 49 (((setI σ2 48 ((σ2.1 36 16).toNatClampNeg) x1).1 36 16).toNatClampNeg) x2).1 36 16).toNatClampNeg) ((setI (setI σ2 48 ((σ2.1 36 16).toNatClampNeg) x1) 49 (((setI σ2 48 ((σ2.1 36 16).toNatClampNeg) x1).1 36 16).toNatClampNeg) x2).1 36 32)).1 36 32) * ((setI (setI (setI σ2 48 ((σ2.1 36 16).toNatClampNeg) x1) 49 (((setI σ2 48 ((σ2.1 36 16).toNatClampNeg) x1).1 36 16).toNatClampNeg) x2) 50 (((setI (setI σ2 48 ((σ2.1 36 16).toNatClampNeg) x1) 49 (((setI σ2 48 ((σ2.1 36 16).toNatClampNeg) x1).1 36 16).toNatClampNeg) x2).1 36 16).toNatClampNeg) ((setI (setI σ2 48 ((σ2.1 36 16).toNatClampNeg) x1) 49 (((setI σ2 48 ((σ2.1 36 16).toNatClampNeg) x1).1 36 16).toNatClampNeg) x2).1 36 32)).1 36 1))).1 36 33)).1 36 16).toNatClampNeg) x3) 36 16 (((setI (setI (setI (setI (setI (setI σ2 48 ((σ2.1 36 16).toNatClampNeg) x1) 49 (((setI σ2 48 ((σ2.1 36 16).toNatClampNeg) x1).1 36 16).toNatClampNeg) x2) 50 (((setI (setI σ2 48 ((σ2.1 36 16).toNatClampNeg) x1) 49 (((setI σ2 48 ((σ2.1 36 16).toNatClampNeg) x1).1 36 16).toNatClampNeg) x2).1 36 16).toNatClampNeg) ((setI (setI σ2 48 ((σ2.1 36 16).toNatClampNeg) x1) 49 (((setI σ2 48 ((σ2.1 36 16).toNatClampNeg) x1).1 36 16).toNatClampNeg) x2).1 36 32)) 51 (((setI (setI (setI σ2 48 ((σ2.1 36 16).toNatClampNeg) x1) 49 (((setI σ2 48 ((σ2.1 36 16).toNatClampNeg) x1).1 36 16).toNatClampNeg) x2) 50 (((setI (setI σ2 48 ((σ2.1 36 16).toNatClampNeg) x1) 49 (((setI σ2 48 ((σ2.1 36 16).toNatClampNeg) x1).1 36 16).toNatClampNeg) x2).1 36 16).toNatClampNeg) ((setI (setI σ2 48 ((σ2.1 36 16).toNatClampNeg) x1) 49 (((setI σ2 48 ((σ2.1 36 16).toNatClampNeg) x1).1 36 16).toNatClampNeg) x2).1 36 32)).1 36 16).toNatClampNeg) (((setI (setI (setI σ2 48 ((σ2.1 36 16).toNatClampNeg) x1) 49 (((setI σ2 48 ((σ2.1 36 16).toNatClampNeg) x1).1 36 16).toNatClampNeg) x2) 50 (((setI (setI σ2 48 ((σ2.1 36 16).toNatClampNeg) x1) 49 (((setI σ2 48 ((σ2.1 36 16).toNatClampNeg) x1).1 36 16).toNatClampNeg) x2).1 36 16).toNatClampNeg) ((setI (setI σ2 48 ((σ2.1 36 16).toNatClampNeg) x1) 49 (((setI σ2 48 ((σ2.1 36 16).toNatClampNeg) x1).1 36 16).toNatClampNeg) x2).1 36 32)).1 36 32) * ((setI (setI (setI σ2 48 ((σ2.1 36 16).toNatClampNeg) x1) 49 (((setI σ2 48 ((σ2.1 36 16).toNatClampNeg) x1).1 36 16).toNatClampNeg) x2) 50 (((setI (setI σ2 48 ((σ2.1 36 16).toNatClampNeg) x1) 49 (((setI σ2 48 ((σ2.1 36 16).toNatClampNeg) x1).1 36 16).toNatClampNeg) x2).1 36 16).toNatClampNeg) ((setI (setI σ2 48 ((σ2.1 36 16).toNatClampNeg) x1) 49 (((setI σ2 48 ((σ2.1 36 16).toNatClampNeg) x1).1 36 16).toNatClampNeg) x2).1 36 32)).1 36 1))) 52 (((setI (setI (setI (setI σ2 48 ((σ2.1 36 16).toNatClampNeg) x1) 49 (((setI σ2 48 ((σ2.1 36 16).toNatClampNeg) x1).1 36 16).toNatClampNeg) x2) 50 (((setI (setI σ2 48 ((σ2.1 36 16).toNatClampNeg) x1) 49 (((setI σ2 48 ((σ2.1 36 16).toNatClampNeg) x1).1 36 16).toNatClampNeg) x2).1 36 16).toNatClampNeg) ((setI (setI σ2 48 ((σ2.1 36 16).toNatClampNeg) x1) 49 (((setI σ2 48 ((σ2.1 36 16).toNatClampNeg) x1).1 36 16).toNatClampNeg) x2).1 36 32)) 51 (((setI (setI (setI σ2 48 ((σ2.1 36 16).toNatClampNeg) x1) 49 (((setI σ2 48 ((σ2.1 36 16).toNatClampNeg) x1).1 36 16).toNatClampNeg) x2) 50 (((setI (setI σ2 48 ((σ2.1 36 16).toNatClampNeg) x1) 49 (((setI σ2 48 ((σ2.1 36 16).toNatClampNeg) x1).1 36 16).toNatClampNeg) x2).1 36 16).toNatClampNeg) ((setI (setI σ2 48 ((σ2.1 36 16).toNatClampNeg) x1) 49 (((setI σ2 48 ((σ2.1 36 16).toNatClampNeg) x1).1 36 16).toNatClampNeg) x2).1 36 32)).1 36 16).toNatClampNeg) (((setI (setI (setI σ2 48 ((σ2.1 36 16).toNatClampNeg) x1) 49 (((setI σ2 48 ((σ2.1 36 16).toNatClampNeg) x1).1 36 16).toNatClampNeg) x2) 50 (((setI (setI σ2 48 ((σ2.1 36 16).toNatClampNeg) x1) 49 (((setI σ2 48 ((σ2.1 36 16).toNatClampNeg) x1).1 36 16).toNatClampNeg) x2).1 36 16).toNatClampNeg) ((setI (setI σ2 48 ((σ2.1 36 16).toNatClampNeg) x1) 49 (((setI σ2 48 ((σ2.1 36 16).toNatClampNeg) x1).1 36 16).toNatClampNeg) x2).1 36 32)).1 36 32) * ((setI (setI (setI σ2 48 ((σ2.1 36 16).toNatClampNeg) x1) 49 (((setI σ2 48 ((σ2.1 36 16).toNatClampNeg) x1).1 36 16).toNatClampNeg) x2) 50 (((setI (setI σ2 48 ((σ2.1 36 16).toNatClampNeg) x1) 49 (((setI σ2 48 ((σ2.1 36 16).toNatClampNeg) x1).1 36 16).toNatClampNeg) x2).1 36 16).toNatClampNeg) ((setI (setI σ2 48 ((σ2.1 36 16).toNatClampNeg) x1) 49 (((setI σ2 48 ((σ2.1 36 16).toNatClampNeg) x1).1 36 16).toNatClampNeg) x2).1 36 32)).1 36 1))).1 36 16).toNatClampNeg) ((setI (setI (setI (setI σ2 48 ((σ2.1 36 16).toNatClampNeg) x1) 49 (((setI σ2 48 ((σ2.1 36 16).toNatClampNeg) x1).1 36 16).toNatClampNeg) x2) 50 (((setI (setI σ2 48 ((σ2.1 36 16).toNatClampNeg) x1) 49 (((setI σ2 48 ((σ2.1 36 16).toNatClampNeg) x1).1 36 16).toNatClampNeg) x2).1 36 16).toNatClampNeg) ((setI (setI σ2 48 ((σ2.1 36 16).toNatClampNeg) x1) 49 (((setI σ2 48 ((σ2.1 36 16).toNatClampNeg) x1).1 36 16).toNatClampNeg) x2).1 36 32)) 51 (((setI (setI (setI σ2 48 ((σ2.1 36 16).toNatClampNeg) x1) 49 (((setI σ2 48 ((σ2.1 36 16).toNatClampNeg) x1).1 36 16).toNatClampNeg) x2) 50 (((setI (setI σ2 48 ((σ2.1 36 16).toNatClampNeg) x1) 49 (((setI σ2 48 ((σ2.1 36 16).toNatClampNeg) x1).1 36 16).toNatClampNeg) x2).1 36 16).toNatClampNeg) ((setI (setI σ2 48 ((σ2.1 36 16).toNatClampNeg) x1) 49 (((setI σ2 48 ((σ2.1 36 16).toNatClampNeg) x1).1 36 16).toNatClampNeg) x2).1 36 32)).1 36 16).toNatClampNeg) (((setI (setI (setI σ2 48 ((σ2.1 36 16).toNatClampNeg) x1) 49 (((setI σ2 48 ((σ2.1 36 16).toNatClampNeg) x1).1 36 16).toNatClampNeg) x2) 50 (((setI (setI σ2 48 ((σ2.1 36 16).toNatClampNeg) x1) 49 (((setI σ2 48 ((σ2.1 36 16).toNatClampNeg) x1).1 36 16).toNatClampNeg) x2).1 36 16).toNatClampNeg) ((setI (setI σ2 48 ((σ2.1 36 16).toNatClampNeg) x1) 49 (((setI σ2 48 ((σ2.1 36 16).toNatClampNeg) x1).1 36 16).toNatClampNeg) x2).1 36 32)).1 36 32) * ((setI (setI (setI σ2 48 ((σ2.1 36 16).toNatClampNeg) x1) 49 (((setI σ2 48 ((σ2.1 36 16).toNatClampNeg) x1).1 36 16).toNatClampNeg) x2) 50 (((setI (setI σ2 48 ((σ2.1 36 16).toNatClampNeg) x1) 49 (((setI σ2 48 ((σ2.1 36 16).toNatClampNeg) x1).1 36 16).toNatClampNeg) x2).1 36 16).toNatClampNeg) ((setI (setI σ2 48 ((σ2.1 36 16).toNatClampNeg) x1) 49 (((setI σ2 48 ((σ2.1 36 16).toNatClampNeg) x1).1 36 16).toNatClampNeg) x2).1 36 32)).1 36 1))).1 36 33)) 53 (((setI (setI (setI (setI (setI σ2 48 ((σ2.1 36 16).toNatClampNeg) x1) 49 (((setI σ2 48 ((σ2.1 36 16).toNatClampNeg) x1).1 36 16).toNatClampNeg) x2) 50 (((setI (setI σ2 48 ((σ2.1 36 16).toNatClampNeg) x1) 49 (((setI σ2 48 ((σ2.1 36 16).toNatClampNeg) x1).1 36 16).toNatClampNeg) x2).1 36 16).toNatClampNeg) ((setI (setI σ2 48 ((σ2.1 36 16).toNatClampNeg) x1) 49 (((setI σ2 48 ((σ2.1 36 16).toNatClampNeg) x1).1 36 16).toNatClampNeg) x2).1 36 32)) 51 (((setI (setI (setI σ2 48 ((σ2.1 36 16).toNatClampNeg) x1) 49 (((setI σ2 48 ((σ2.1 36 16).toNatClampNeg) x1).1 36 16).toNatClampNeg) x2) 50 (((setI (setI σ2 48 ((σ2.1 36 16).toNatClampNeg) x1) 49 (((setI σ2 48 ((σ2.1 36 16).toNatClampNeg) x1).1 36 16).toNatClampNeg) x2).1 36 16).toNatClampNeg) ((setI (setI σ2 48 ((σ2.1 36 16).toNatClampNeg) x1) 49 (((setI σ2 48 ((σ2.1 36 16).toNatClampNeg) x1).1 36 16).toNatClampNeg) x2).1 36 32)).1 36 16).toNatClampNeg) (((setI (setI (setI σ2 48 ((σ2.1 36 16).toNatClampNeg) x1) 49 (((setI σ2 48 ((σ2.1 36 16).toNatClampNeg) x1).1 36 16).toNatClampNeg) x2) 50 (((setI (setI σ2 48 ((σ2.1 36 16).toNatClampNeg) x1) 49 (((setI σ2 48 ((σ2.1 36 16).toNatClampNeg) x1).1 36 16).toNatClampNeg) x2).1 36 16).toNatClampNeg) ((setI (setI σ2 48 ((σ2.1 36 16).toNatClampNeg) x1) 49 (((setI σ2 48 ((σ2.1 36 16).toNatClampNeg) x1).1 36 16).toNatClampNeg) x2).1 36 32)).1 36 32) * ((setI (setI (setI σ2 48 ((σ2.1 36 16).toNatClampNeg) x1) 49 (((setI σ2 48 ((σ2.1 36 16).toNatClampNeg) x1).1 36 16).toNatClampNeg) x2) 50 (((setI (setI σ2 48 ((σ2.1 36 16).toNatClampNeg) x1) 49 (((setI σ2 48 ((σ2.1 36 16).toNatClampNeg) x1).1 36 16).toNatClampNeg) x2).1 36 16).toNatClampNeg) ((setI (setI σ2 48 ((σ2.1 36 16).toNatClampNeg) x1) 49 (((setI σ2 48 ((σ2.1 36 16).toNatClampNeg) x1).1 36 16).toNatClampNeg) x2).1 36 32)).1 36 1))) 52 (((setI (setI (setI (setI σ2 48 ((σ2.1 36 16).toNatClampNeg) x1) 49 (((setI σ2 48 ((σ2.1 36 16).toNatClampNeg) x1).1 36 16).toNatClampNeg) x2) 50 (((setI (setI σ2 48 ((σ2.1 36 16).toNatClampNeg) x1) 49 (((setI σ2 48 ((σ2.1 36 16).toNatClampNeg) x1).1 36 16).toNatClampNeg) x2).1 36 16).toNatClampNeg) ((setI (setI σ2 48 ((σ2.1 36 16).toNatClampNeg) x1) 49 (((setI σ2 48 ((σ2.1 36 16).toNatClampNeg) x1).1 36 16).toNatClampNeg) x2).1 36 32)) 51 (((setI (setI (setI σ2 48 ((σ2.1 36 16).toNatClampNeg) x1) 49 (((setI σ2 48 ((σ2.1 36 16).toNatClampNeg) x1).1 36 16).toNatClampNeg) x2) 50 (((setI (setI σ2 48 ((σ2.1 36 16).toNatClampNeg) x1) 49 (((setI σ2 48 ((σ2.1 36 16).toNatClampNeg) x1).1 36 16).toNatClampNeg) x2).1 36 16).toNatClampNeg) ((setI (setI σ2 48 ((σ2.1 36 16).toNatClampNeg) x1) 49 (((setI σ2 48 ((σ2.1 36 16).toNatClampNeg) x1).1 36 16).toNatClampNeg) x2).1 36 32)).1 36 16).toNatClampNeg) (((setI (setI (setI σ2 48 ((σ2.1 36 16).toNatClampNeg) x1) 49 (((setI σ2 48 ((σ2.1 36 16).toNatClampNeg) x1).1 36 16).toNatClampNeg) x2) 50 (((setI (setI σ2 48 ((σ2.1 36 16).toNatClampNeg) x1) 49 (((setI σ2 48 ((σ2.1 36 16).toNatClampNeg) x1).1 36 16).toNatClampNeg) x2).1 36 16).toNatClampNeg) ((setI (setI σ2 48 ((σ2.1 36 16).toNatClampNeg) x1) 49 (((setI σ2 48 ((σ2.1 36 16).toNatClampNeg) x1).1 36 16).toNatClampNeg) x2).1 36 32)).1 36 32) * ((setI (setI (setI σ2 48 ((σ2.1 36 16).toNatClampNeg) x1) 49 (((setI σ2 48 ((σ2.1 36 16).toNatClampNeg) x1).1 36 16).toNatClampNeg) x2) 50 (((setI (setI σ2 48 ((σ2.1 36 16).toNatClampNeg) x1) 49 (((setI σ2 48 ((σ2.1 36 16).toNatClampNeg) x1).1 36 16).toNatClampNeg) x2).1 36 16).toNatClampNeg) ((setI (setI σ2 48 ((σ2.1 36 16).toNatClampNeg) x1) 49 (((setI σ2 48 ((σ2.1 36 16).toNatClampNeg) x1).1 36 16).toNatClampNeg) x2).1 36 32)).1 36 1))).1 36 16).toNatClampNeg) ((setI (setI (setI (setI σ2 48 ((σ2.1 36 16).toNatClampNeg) x1) 49 (((setI σ2 48 ((σ2.1 36 16).toNatClampNeg) x1).1 36 16).toNatClampNeg) x2) 50 (((setI (setI σ2 48 ((σ2.1 36 16).toNatClampNeg) x1) 49 (((setI σ2 48 ((σ2.1 36 16).toNatClampNeg) x1).1 36 16).toNatClampNeg) x2).1 36 16).toNatClampNeg) ((setI (setI σ2 48 ((σ2.1 36 16).toNatClampNeg) x1) 49 (((setI σ2 48 ((σ2.1 36 16).toNatClampNeg) x1).1 36 16).toNatClampNeg) x2).1 36 32)) 51 (((setI (setI (setI σ2 48 ((σ2.1 36 16).toNatClampNeg) x1) 49 (((setI σ2 48 ((σ2.1 36 16).toNatClampNeg) x1).1 36 16).toNatClampNeg) x2) 50 (((setI (setI σ2 48 ((σ2.1 36 16).toNatClampNeg) x1) 49 (((setI σ2 48 ((σ2.1 36 16).toNatClampNeg) x1).1 36 16).toNatClampNeg) x2).1 36 16).toNatClampNeg) ((setI (setI σ2 48 ((σ2.1 36 16).toNatClampNeg) x1) 49 (((setI σ2 48 ((σ2.1 36 16).toNatClampNeg) x1).1 36 16).toNatClampNeg) x2).1 36 32)).1 36 16).toNatClampNeg) (((setI (setI (setI σ2 48 ((σ2.1 36 16).toNatClampNeg) x1) 49 (((setI σ2 48 ((σ2.1 36 16).toNatClampNeg) x1).1 36 16).toNatClampNeg) x2) 50 (((setI (setI σ2 48 ((σ2.1 36 16).toNatClampNeg) x1) 49 (((setI σ2 48 ((σ2.1 36 16).toNatClampNeg) x1).1 36 16).toNatClampNeg) x2).1 36 16).toNatClampNeg) ((setI (setI σ2 48 ((σ2.1 36 16).toNatClampNeg) x1) 49 (((setI σ2 48 ((σ2.1 36 16).toNatClampNeg) x1).1 36 16).toNatClampNeg) x2).1 36 32)).1 36 32) * ((setI (setI (setI σ2 48 ((σ2.1 36 16).toNatClampNeg) x1) 49 (((setI σ2 48 ((σ2.1 36 16).toNatClampNeg) x1).1 36 16).toNatClampNeg) x2) 50 (((setI (setI σ2 48 ((σ2.1 36 16).toNatClampNeg) x1) 49 (((setI σ2 48 ((σ2.1 36 16).toNatClampNeg) x1).1 36 16).toNatClampNeg) x2).1 36 16).toNatClampNeg) ((setI (setI σ2 48 ((σ2.1 36 16).toNatClampNeg) x1) 49 (((setI σ2 48 ((σ2.1 36 16).toNatClampNeg) x1).1 36 16).toNatClampNeg) x2).1 36 32)).1 36 1))).1 36 33)).1 36 16).toNatClampNeg) x3).1 36 16) + 1))
set_option maxHeartbeats 4000000 in
theorem kmX6_write (l : Launch) {x1 : Int32} {x2 : Int32} {x3 : Int32} {σ : ST} {τ : ST} (hf : fX6_write x1 x2 x3 σ = some τ) : KM l yX6_write cX6_write 4 none 4 95 [.ref 36, .int x1, .int x2, .int x3] σ none τ := by
  refine KM.intro (ow := 6) (by decide +kernel) rfl (Nat.le_of_ble_eq_true rfl) (fun V hm => ?_)
  show V 0 [some (.ref 36), some (.int x1), some (.int x2), some (.int x3)] [] σ
  have h := hm.bd
  unfold fX6_write at hf
  obtain ⟨g1, hf⟩ := gd_some hf
  refine h.run (o := [kd 36 = 6, kd 41 = 10, inb x2 (alen 41) = true]) (ls' := [some (.ref 36), some (.int x1), some (.int x2), some (.int x3)]) (st' := [.int x3, .int (σ.1 41 x2.toNatClampNeg), .int x2, .int x1, .ref 36]) (σ' := σ) [(.aload_n 0, 1, 0, 0, 0, 0), (.iload_n 1, 1, 0, 0, 0, 0), (.iload_n 2, 1, 0, 0, 0, 0), (.aload_n 0, 1, 0, 0, 0, 0), (.getfield 32, 3, 0, 0, 6, 9), (.iload_n 2, 1, 0, 0, 0, 0), (.iaload, 1, 0, 0, 0, 0), (.iload_n 3, 1, 0, 0, 0, 0)] (pc2 := 10) (by decide +kernel) rfl (And.intro kd_36 (And.intro kd_41 (And.intro g1 trivial))) ?_
  obtain ⟨σ2, e2, hf⟩ := bR_some hf
  refine h.callV (as := [.int x1, .int x2, .int (σ.1 41 x2.toNatClampNeg), .int x3]) (rest := []) (by decide +kernel) lk6_224 cwX6_pass kd_36 (kmX6_pass l e2) rfl (Nat.le_of_ble_eq_true rfl) (Nat.le_of_ble_eq_true rfl) (Nat.le_of_ble_eq_true rfl) ?_
  show V 13 [some (.ref 36), some (.int x1), some (.int x2), some (.int x3)] [] σ2
  obtain ⟨g3, hf⟩ := gd_some hf
  obtain ⟨g4, hf⟩ := gd_some hf
  obtain ⟨g5, hf⟩ := gd_some hf
  obtain ⟨g6, hf⟩ := gd_some hf
  obtain ⟨g7, hf⟩ := gd_some hf
  obtain ⟨g8, hf⟩ := gd_some hf
  obtain ⟨g9, hf⟩ := gd_some hf
  refine h.run (o := [kd 36 = 6, kd 36 = 6, kd 48 = 10, inb (σ2.1 36 16) (alen 48) = true, kd 36 = 6, kd 36 = 6, kd 49 = 10, inb ((setI σ2 48 ((σ2.1 36 16).toNatClampNeg) x1).1 36 16) (alen 49) = true, kd 36 = 6, kd 36 = 6, kd 36 = 6, kd 50 = 10, inb ((setI (setI σ2 48 ((σ2.1 36 16).toNatClampNeg) x1) 49 (((setI σ2 48 ((σ2.1 36 16).toNatClampNeg) x1).1 36 16).toNatClampNeg) x2).1 36 16) (alen 50) = true, kd 36 = 6, kd 36 = 6, kd 36 = 6, kd 36 = 6, kd 51 = 10, inb ((setI (setI (setI σ2 48 ((σ2.1 36 16).toNatClampNeg) x1) 49 (((setI σ2 48 ((σ2.1 36 16).toNatClampNeg) x1).1 36 16).toNatClampNeg) x2) 50 (((setI (setI σ2 48 ((σ2.1 36 16).toNatClampNeg) x1) 49 (((setI σ2 48 ((σ2.1 36 16).toNatClampNeg) x1).1 36 16).toNatClampNeg) x2).1 36 16).toNatClampNeg) ((setI (setI σ2 48 ((σ2.1 36 16).toNatClampNeg) x1) 49 (((setI σ2 48 ((σ2.1 36 16).toNatClampNeg) x1).1 36 16).toNatClampNeg) x2).1 36 32)).1 36 16) (alen 51) = true, kd 36 = 6, kd 36 = 6, kd 36 = 6, kd 52 = 10, inb ((setI (setI (setI (setI σ2 48 ((σ2.1 36 16).toNatClampNeg) x1) 49 (((setI σ2 48 ((σ2.1 36 16).toNatClampNeg) x1).1 36 16).toNatClampNeg) x2) 50 (((setI (setI σ2 48 ((σ2.1 36 16).toNatClampNeg) x1) 49 (((setI σ2 48 ((σ2.1 36 16).toNatClampNeg) x1).1 36 16).toNatClampNeg) x2).1 36 16).toNatClampNeg) ((setI (setI σ2 48 ((σ2.1 36 16).toNatClampNeg) x1) 49 (((setI σ2 48 ((σ2.1 36 16).toNatClampNeg) x1).1 36 16).toNatClampNeg) x2).1 36 32)) 51 (((setI (setI (setI σ2 48 ((σ2.1 36 16).toNatClampNeg) x1) 49 (((setI σ2 48 ((σ2.1 36 16).toNatClampNeg) x1).1 36 16).toNatClampNeg) x2) 50 (((setI (setI σ2 48 ((σ2.1 36 16).toNatClampNeg) x1) 49 (((setI σ2 48 ((σ2.1 36 16).toNatClampNeg) x1).1 36 16).toNatClampNeg) x2).1 36 16).toNatClampNeg) ((setI (setI σ2 48 ((σ2.1 36 16).toNatClampNeg) x1) 49 (((setI σ2 48 ((σ2.1 36 16).toNatClampNeg) x1).1 36 16).toNatClampNeg) x2).1 36 32)).1 36 16).toNatClampNeg) (((setI (setI (setI σ2 48 ((σ2.1 36 16).toNatClampNeg) x1) 49 (((setI σ2 48 ((σ2.1 36 16).toNatClampNeg) x1).1 36 16).toNatClampNeg) x2) 50 (((setI (setI σ2 48 ((σ2.1 36 16).toNatClampNeg) x1) 49 (((setI σ2 48 ((σ2.1 36 16).toNatClampNeg) x1).1 36 16).toNatClampNeg) x2).1 36 16).toNatClampNeg) ((setI (setI σ2 48 ((σ2.1 36 16).toNatClampNeg) x1) 49 (((setI σ2 48 ((σ2.1 36 16).toNatClampNeg) x1).1 36 16).toNatClampNeg) x2).1 36 32)).1 36 32) * ((setI (setI (setI σ2 48 ((σ2.1 36 16).toNatClampNeg) x1) 49 (((setI σ2 48 ((σ2.1 36 16).toNatClampNeg) x1).1 36 16).toNatClampNeg) x2) 50 (((setI (setI σ2 48 ((σ2.1 36 16).toNatClampNeg) x1) 49 (((setI σ2 48 ((σ2.1 36 16).toNatClampNeg) x1).1 36 16).toNatClampNeg) x2).1 36 16).toNatClampNeg) ((setI (setI σ2 48 ((σ2.1 36 16).toNatClampNeg) x1) 49 (((setI σ2 48 ((σ2.1 36 16).toNatClampNeg) x1).1 36 16).toNatClampNeg) x2).1 36 32)).1 36 1))).1 36 16) (alen 52) = true, kd 36 = 6, kd 36 = 6, kd 53 = 11, inb ((setI (setI (setI (setI (setI σ2 48 ((σ2.1 36 16).toNatClampNeg) x1) 49 (((setI σ2 48 ((σ2.1 36 16).toNatClampNeg) x1).1 36 16).toNatClampNeg) x2) 50 (((setI (setI σ2 48 ((σ2.1 36 16).toNatClampNeg) x1) 49 (((setI σ2 48 ((σ2.1 36 16).toNatClampNeg) x1).1 36 16).toNatClampNeg) x2).1 36 16).toNatClampNeg) ((setI (setI σ2 48 ((σ2.1 36 16).toNatClampNeg) x1) 49 (((setI σ2 48 ((σ2.1 36 16).toNatClampNeg) x1).1 36 16).toNatClampNeg) x2).1 36 32)) 51 (((setI (setI (setI σ2 48 ((σ2.1 36 16).toNatClampNeg) x1) 49 (((setI σ2 48 ((σ2.1 36 16).toNatClampNeg) x1).1 36 16).toNatClampNeg) x2) 50 (((setI (setI σ2 48 ((σ2.1 36 16).toNatClampNeg) x1) 49 (((setI σ2 48 ((σ2.1 36 16).toNatClampNeg) x1).1 36 16).toNatClampNeg) x2).1 36 16).toNatClampNeg) ((setI (setI σ2 48 ((σ2.1 36 16).toNatClampNeg) x1) 49 (((setI σ2 48 ((σ2.1 36 16).toNatClampNeg) x1).1 36 16).toNatClampNeg) x2).1 36 32)).1 36 16).toNatClampNeg) (((setI (setI (setI σ2 48 ((σ2.1 36 16).toNatClampNeg) x1) 49 (((setI σ2 48 ((σ2.1 36 16).toNatClampNeg) x1).1 36 16).toNatClampNeg) x2) 50 (((setI (setI σ2 48 ((σ2.1 36 16).toNatClampNeg) x1) 49 (((setI σ2 48 ((σ2.1 36 16).toNatClampNeg) x1).1 36 16).toNatClampNeg) x2).1 36 16).toNatClampNeg) ((setI (setI σ2 48 ((σ2.1 36 16).toNatClampNeg) x1) 49 (((setI σ2 48 ((σ2.1 36 16).toNatClampNeg) x1).1 36 16).toNatClampNeg) x2).1 36 32)).1 36 32) * ((setI (setI (setI σ2 48 ((σ2.1 36 16).toNatClampNeg) x1) 49 (((setI σ2 48 ((σ2.1 36 16).toNatClampNeg) x1).1 36 16).toNatClampNeg) x2) 50 (((setI (setI σ2 48 ((σ2.1 36 16).toNatClampNeg) x1) 49 (((setI σ2 48 ((σ2.1 36 16).toNatClampNeg) x1).1 36 16).toNatClampNeg) x2).1 36 16).toNatClampNeg) ((setI (setI σ2 48 ((σ2.1 36 16).toNatClampNeg) x1) 49 (((setI σ2 48 ((σ2.1 36 16).toNatClampNeg) x1).1 36 16).toNatClampNeg) x2).1 36 32)).1 36 1))) 52 (((setI (setI (setI (setI σ2 48 ((σ2.1 36 16).toNatClampNeg) x1) 49 (((setI σ2 48 ((σ2.1 36 16).toNatClampNeg) x1).1 36 16).toNatClampNeg) x2) 50 (((setI (setI σ2 48 ((σ2.1 36 16).toNatClampNeg) x1) 49 (((setI σ2 48 ((σ2.1 36 16).toNatClampNeg) x1).1 36 16).toNatClampNeg) x2).1 36 16).toNatClampNeg) ((setI (setI σ2 48 ((σ2.1 36 16).toNatClampNeg) x1) 49 (((setI σ2 48 ((σ2.1 36 16).toNatClampNeg) x1).1 36 16).toNatClampNeg) x2).1 36 32)) 51 (((setI (setI (setI σ2 48 ((σ2.1 36 16).toNatClampNeg) x1) 49 (((setI σ2 48 ((σ2.1 36 16).toNatClampNeg) x1).1 36 16).toNatClampNeg) x2) 50 (((setI (setI σ2 48 ((σ2.1 36 16).toNatClampNeg) x1) 49 (((setI σ2 48 ((σ2.1 36 16).toNatClampNeg) x1).1 36 16).toNatClampNeg) x2).1 36 16).toNatClampNeg) ((setI (setI σ2 48 ((σ2.1 36 16).toNatClampNeg) x1) 49 (((setI σ2 48 ((σ2.1 36 16).toNatClampNeg) x1).1 36 16).toNatClampNeg) x2).1 36 32)).1 36 16).toNatClampNeg) (((setI (setI (setI σ2 48 ((σ2.1 36 16).toNatClampNeg) x1) 49 (((setI σ2 48 ((σ2.1 36 16).toNatClampNeg) x1).1 36 16).toNatClampNeg) x2) 50 (((setI (setI σ2 48 ((σ2.1 36 16).toNatClampNeg) x1) 49 (((setI σ2 48 ((σ2.1 36 16).toNatClampNeg) x1).1 36 16).toNatClampNeg) x2).1 36 16).toNatClampNeg) ((setI (setI σ2 48 ((σ2.1 36 16).toNatClampNeg) x1) 49 (((setI σ2 48 ((σ2.1 36 16).toNatClampNeg) x1).1 36 16).toNatClampNeg) x2).1 36 32)).1 36 32) * ((setI (setI (setI σ2 48 ((σ2.1 36 16).toNatClampNeg) x1) 49 (((setI σ2 48 ((σ2.1 36 16).toNatClampNeg) x1).1 36 16).toNatClampNeg) x2) 50 (((setI (setI σ2 48 ((σ2.1 36 16).toNatClampNeg) x1) 49 (((setI σ2 48 ((σ2.1 36 16).toNatClampNeg) x1).1 36 16).toNatClampNeg) x2).1 36 16).toNatClampNeg) ((setI (setI σ2 48 ((σ2.1 36 16).toNatClampNeg) x1) 49 (((setI σ2 48 ((σ2.1 36 16).toNatClampNeg) x1).1 36 16).toNatClampNeg) x2).1 36 32)).1 36 1))).1 36 16).toNatClampNeg) ((setI (setI (setI (setI σ2 48 ((σ2.1 36 16).toNatClampNeg) x1) 49 (((setI σ2 48 ((σ2.1 36 16).toNatClampNeg) x1).1 36 16).toNatClampNeg) x2) 50 (((setI (setI σ2 48 ((σ2.1 36 16).toNatClampNeg) x1) 49 (((setI σ2 48 ((σ2.1 36 16).toNatClampNeg) x1).1 36 16).toNatClampNeg) x2).1 36 16).toNatClampNeg) ((setI (setI σ2 48 ((σ2.1 36 16).toNatClampNeg) x1) 49 (((setI σ2 48 ((σ2.1 36 16).toNatClampNeg) x1).1 36 16).toNatClampNeg) x2).1 36 32)) 51 (((setI (setI (setI σ2 48 ((σ2.1 36 16).toNatClampNeg) x1) 49 (((setI σ2 48 ((σ2.1 36 16).toNatClampNeg) x1).1 36 16).toNatClampNeg) x2) 50 (((setI (setI σ2 48 ((σ2.1 36 16).toNatClampNeg) x1) 49 (((setI σ2 48 ((σ2.1 36 16).toNatClampNeg) x1).1 36 16).toNatClampNeg) x2).1 36 16).toNatClampNeg) ((setI (setI σ2 48 ((σ2.1 36 16).toNatClampNeg) x1) 49 (((setI σ2 48 ((σ2.1 36 16).toNatClampNeg) x1).1 36 16).toNatClampNeg) x2).1 36 32)).1 36 16).toNatClampNeg) (((setI (setI (setI σ2 48 ((σ2.1 36 16).toNatClampNeg) x1) 49 (((setI σ2 48 ((σ2.1 36 16).toNatClampNeg) x1).1 36 16).toNatClampNeg) x2) 50 (((setI (setI σ2 48 ((σ2.1 36 16).toNatClampNeg) x1) 49 (((setI σ2 48 ((σ2.1 36 16).toNatClampNeg) x1).1 36 16).toNatClampNeg) x2).1 36 16).toNatClampNeg) ((setI (setI σ2 48 ((σ2.1 36 16).toNatClampNeg) x1) 49 (((setI σ2 48 ((σ2.1 36 16).toNatClampNeg) x1).1 36 16).toNatClampNeg) x2).1 36 32)).1 36 32) * ((setI (setI (setI σ2 48 ((σ2.1 36 16).toNatClampNeg) x1) 49 (((setI σ2 48 ((σ2.1 36 16).toNatClampNeg) x1).1 36 16).toNatClampNeg) x2) 50 (((setI (setI σ2 48 ((σ2.1 36 16).toNatClampNeg) x1) 49 (((setI σ2 48 ((σ2.1 36 16).toNatClampNeg) x1).1 36 16).toNatClampNeg) x2).1 36 16).toNatClampNeg) ((setI (setI σ2 48 ((σ2.1 36 16).toNatClampNeg) x1) 49 (((setI σ2 48 ((σ2.1 36 16).toNatClampNeg) x1).1 36 16).toNatClampNeg) x2).1 36 32)).1 36 1))).1 36 33)).1 36 16) (alen 53) = true, isb x3 = true, kd 36 = 6, kd 36 = 6]) (ls' := [some (.ref 36), some (.int x1), some (.int x2), some (.int x3)]) (st' := []) (σ' := setI (setI (setI (setI (setI (setI (setI σ2 48 ((σ2.1 36 16).toNatClampNeg) x1) 49 (((setI σ2 48 ((σ2.1 36 16).toNatClampNeg) x1).1 36 16).toNatClampNeg) x2) 50 (((setI (setI σ2 48 ((σ2.1 36 16).toNatClampNeg) x1) 49 (((setI σ2 48 ((σ2.1 36 16).toNatClampNeg) x1).1 36 16).toNatClampNeg) x2).1 36 16).toNatClampNeg) ((setI (setI σ2 48 ((σ2.1 36 16).toNatClampNeg) x1) 49 (((setI σ2 48 ((σ2.1 36 16).toNatClampNeg) x1).1 36 16).toNatClampNeg) x2).1 36 32)) 51 (((setI (setI (setI σ2 48 ((σ2.1 36 16).toNatClampNeg) x1) 49 (((setI σ2 48 ((σ2.1 36 16).toNatClampNeg) x1).1 36 16).toNatClampNeg) x2) 50 (((setI (setI σ2 48 ((σ2.1 36 16).toNatClampNeg) x1) 49 (((setI σ2 48 ((σ2.1 36 16).toNatClampNeg) x1).1 36 16).toNatClampNeg) x2).1 36 16).toNatClampNeg) ((setI (setI σ2 48 ((σ2.1 36 16).toNatClampNeg) x1) 49 (((setI σ2 48 ((σ2.1 36 16).toNatClampNeg) x1).1 36 16).toNatClampNeg) x2).1 36 32)).1 36 16).toNatClampNeg) (((setI (setI (setI σ2 48 ((σ2.1 36 16).toNatClampNeg) x1) 49 (((setI σ2 48 ((σ2.1 36 16).toNatClampNeg) x1).1 36 16).toNatClampNeg) x2) 50 (((setI (setI σ2 48 ((σ2.1 36 16).toNatClampNeg) x1) 49 (((setI σ2 48 ((σ2.1 36 16).toNatClampNeg) x1).1 36 16).toNatClampNeg) x2).1 36 16).toNatClampNeg) ((setI (setI σ2 48 ((σ2.1 36 16).toNatClampNeg) x1) 49 (((setI σ2 48 ((σ2.1 36 16).toNatClampNeg) x1).1 36 16).toNatClampNeg) x2).1 36 32)).1 36 32) * ((setI (setI (setI σ2 48 ((σ2.1 36 16).toNatClampNeg) x1) 49 (((setI σ2 48 ((σ2.1 36 16).toNatClampNeg) x1).1 36 16).toNatClampNeg) x2) 50 (((setI (setI σ2 48 ((σ2.1 36 16).toNatClampNeg) x1) 49 (((setI σ2 48 ((σ2.1 36 16).toNatClampNeg) x1).1 36 16).toNatClampNeg) x2).1 36 16).toNatClampNeg) ((setI (setI σ2 48 ((σ2.1 36 16).toNatClampNeg) x1) 49 (((setI σ2 48 ((σ2.1 36 16).toNatClampNeg) x1).1 36 16).toNatClampNeg) x2).1 36 32)).1 36 1))) 52 (((setI (setI (setI (setI σ2 48 ((σ2.1 36 16).toNatClampNeg) x1) 49 (((setI σ2 48 ((σ2.1 36 16).toNatClampNeg) x1).1 36 16).toNatClampNeg) x2) 50 (((setI (setI σ2 48 ((σ2.1 36 16).toNatClampNeg) x1) 49 (((setI σ2 48 ((σ2.1 36 16).toNatClampNeg) x1).1 36 16).toNatClampNeg) x2).1 36 16).toNatClampNeg) ((setI (setI σ2 48 ((σ2.1 36 16).toNatClampNeg) x1) 49 (((setI σ2 48 ((σ2.1 36 16).toNatClampNeg) x1).1 36 16).toNatClampNeg) x2).1 36 32)) 51 (((setI (setI (setI σ2 48 ((σ2.1 36 16).toNatClampNeg) x1) 49 (((setI σ2 48 ((σ2.1 36 16).toNatClampNeg) x1).1 36 16).toNatClampNeg) x2) 50 (((setI (setI σ2 48 ((σ2.1 36 16).toNatClampNeg) x1) 49 (((setI σ2 48 ((σ2.1 36 16).toNatClampNeg) x1).1 36 16).toNatClampNeg) x2).1 36 16).toNatClampNeg) ((setI (setI σ2 48 ((σ2.1 36 16).toNatClampNeg) x1) 49 (((setI σ2 48 ((σ2.1 36 16).toNatClampNeg) x1).1 36 16).toNatClampNeg) x2).1 36 32)).1 36 16).toNatClampNeg) (((setI (setI (setI σ2 48 ((σ2.1 36 16).toNatClampNeg) x1) 49 (((setI σ2 48 ((σ2.1 36 16).toNatClampNeg) x1).1 36 16).toNatClampNeg) x2) 50 (((setI (setI σ2 48 ((σ2.1 36 16).toNatClampNeg) x1) 49 (((setI σ2 48 ((σ2.1 36 16).toNatClampNeg) x1).1 36 16).toNatClampNeg) x2).1 36 16).toNatClampNeg) ((setI (setI σ2 48 ((σ2.1 36 16).toNatClampNeg) x1) 49 (((setI σ2 48 ((σ2.1 36 16).toNatClampNeg) x1).1 36 16).toNatClampNeg) x2).1 36 32)).1 36 32) * ((setI (setI (setI σ2 48 ((σ2.1 36 16).toNatClampNeg) x1) 49 (((setI σ2 48 ((σ2.1 36 16).toNatClampNeg) x1).1 36 16).toNatClampNeg) x2) 50 (((setI (setI σ2 48 ((σ2.1 36 16).toNatClampNeg) x1) 49 (((setI σ2 48 ((σ2.1 36 16).toNatClampNeg) x1).1 36 16).toNatClampNeg) x2).1 36 16).toNatClampNeg) ((setI (setI σ2 48 ((σ2.1 36 16).toNatClampNeg) x1) 49 (((setI σ2 48 ((σ2.1 36 16).toNatClampNeg) x1).1 36 16).toNatClampNeg) x2).1 36 32)).1 36 1))).1 36 16).toNatClampNeg) ((setI (setI (setI (setI σ2 48 ((σ2.1 36 16).toNatClampNeg) x1) 49 (((setI σ2 48 ((σ2.1 36 16).toNatClampNeg) x1).1 36 16).toNatClampNeg) x2) 50 (((setI (setI σ2 48 ((σ2.1 36 16).toNatClampNeg) x1) 49 (((setI σ2 48 ((σ2.1 36 16).toNatClampNeg) x1).1 36 16).toNatClampNeg) x2).1 36 16).toNatClampNeg) ((setI (setI σ2 48 ((σ2.1 36 16).toNatClampNeg) x1) 49 (((setI σ2 48 ((σ2.1 36 16).toNatClampNeg) x1).1 36 16).toNatClampNeg) x2).1 36 32)) 51 (((setI (setI (setI σ2 48 ((σ2.1 36 16).toNatClampNeg) x1) 49 (((setI σ2 48 ((σ2.1 36 16).toNatClampNeg) x1).1 36 16).toNatClampNeg) x2) 50 (((setI (setI σ2 48 ((σ2.1 36 16).toNatClampNeg) x1) 49 (((setI σ2 48 ((σ2.1 36 16).toNatClampNeg) x1).1 36 16).toNatClampNeg) x2).1 36 16).toNatClampNeg) ((setI (setI σ2 48 ((σ2.1 36 16).toNatClampNeg) x1) 49 (((setI σ2 48 ((σ2.1 36 16).toNatClampNeg) x1).1 36 16).toNatClampNeg) x2).1 36 32)).1 36 16).toNatClampNeg) (((setI (setI (setI σ2 48 ((σ2.1 36 16).toNatClampNeg) x1) 49 (((setI σ2 48 ((σ2.1 36 16).toNatClampNeg) x1).1 36 16).toNatClampNeg) x2) 50 (((setI (setI σ2 48 ((σ2.1 36 16).toNatClampNeg) x1) 49 (((setI σ2 48 ((σ2.1 36 16).toNatClampNeg) x1).1 36 16).toNatClampNeg) x2).1 36 16).toNatClampNeg) ((setI (setI σ2 48 ((σ2.1 36 16).toNatClampNeg) x1) 49 (((setI σ2 48 ((σ2.1 36 16).toNatClampNeg) x1).1 36 16).toNatClampNeg) x2).1 36 32)).1 36 32) * ((setI (setI (setI σ2 48 ((σ2.1 36 16).toNatClampNeg) x1) 49 (((setI σ2 48 ((σ2.1 36 16).toNatClampNeg) x1).1 36 16).toNatClampNeg) x2) 50 (((setI (setI σ2 48 ((σ2.1 36 16).toNatClampNeg) x1) 49 (((setI σ2 48 ((σ2.1 36 16).toNatClampNeg) x1).1 36 16).toNatClampNeg) x2).1 36 16).toNatClampNeg) ((setI (setI σ2 48 ((σ2.1 36 16).toNatClampNeg) x1) 49 (((setI σ2 48 ((σ2.1 36 16).toNatClampNeg) x1).1 36 16).toNatClampNeg) x2).1 36 32)).1 36 1))).1 36 33)) 53 (((setI (setI (setI (setI (setI σ2 48 ((σ2.1 36 16).toNatClampNeg) x1) 49 (((setI σ2 48 ((σ2.1 36 16).toNatClampNeg) x1).1 36 16).toNatClampNeg) x2) 50 (((setI (setI σ2 48 ((σ2.1 36 16).toNatClampNeg) x1) 49 (((setI σ2 48 ((σ2.1 36 16).toNatClampNeg) x1).1 36 16).toNatClampNeg) x2).1 36 16).toNatClampNeg) ((setI (setI σ2 48 ((σ2.1 36 16).toNatClampNeg) x1) 49 (((setI σ2 48 ((σ2.1 36 16).toNatClampNeg) x1).1 36 16).toNatClampNeg) x2).1 36 32)) 51 (((setI (setI (setI σ2 48 ((σ2.1 36 16).toNatClampNeg) x1) 49 (((setI σ2 48 ((σ2.1 36 16).toNatClampNeg) x1).1 36 16).toNatClampNeg) x2) 50 (((setI (setI σ2 48 ((σ2.1 36 16).toNatClampNeg) x1) 49 (((setI σ2 48 ((σ2.1 36 16).toNatClampNeg) x1).1 36 16).toNatClampNeg) x2).1 36 16).toNatClampNeg) ((setI (setI σ2 48 ((σ2.1 36 16).toNatClampNeg) x1) 49 (((setI σ2 48 ((σ2.1 36 16).toNatClampNeg) x1).1 36 16).toNatClampNeg) x2).1 36 32)).1 36 16).toNatClampNeg) (((setI (setI (setI σ2 48 ((σ2.1 36 16).toNatClampNeg) x1) 49 (((setI σ2 48 ((σ2.1 36 16).toNatClampNeg) x1).1 36 16).toNatClampNeg) x2) 50 (((setI (setI σ2 48 ((σ2.1 36 16).toNatClampNeg) x1) 49 (((setI σ2 48 ((σ2.1 36 16).toNatClampNeg) x1).1 36 16).toNatClampNeg) x2).1 36 16).toNatClampNeg) ((setI (setI σ2 48 ((σ2.1 36 16).toNatClampNeg) x1) 49 (((setI σ2 48 ((σ2.1 36 16).toNatClampNeg) x1).1 36 16).toNatClampNeg) x2).1 36 32)).1 36 32) * ((setI (setI (setI σ2 48 ((σ2.1 36 16).toNatClampNeg) x1) 49 (((setI σ2 48 ((σ2.1 36 16).toNatClampNeg) x1).1 36 16).toNatClampNeg) x2) 50 (((setI (setI σ2 48 ((σ2.1 36 16).toNatClampNeg) x1) 49 (((setI σ2 48 ((σ2.1 36 16).toNatClampNeg) x1).1 36 16).toNatClampNeg) x2).1 36 16).toNatClampNeg) ((setI (setI σ2 48 ((σ2.1 36 16).toNatClampNeg) x1) 49 (((setI σ2 48 ((σ2.1 36 16).toNatClampNeg) x1).1 36 16).toNatClampNeg) x2).1 36 32)).1 36 1))) 52 (((setI (setI (setI (setI σ2 48 ((σ2.1 36 16).toNatClampNeg) x1) 49 (((setI σ2 48 ((σ2.1 36 16).toNatClampNeg) x1).1 36 16).toNatClampNeg) x2) 50 (((setI (setI σ2 48 ((σ2.1 36 16).toNatClampNeg) x1) 49 (((setI σ2 48 ((σ2.1 36 16).toNatClampNeg) x1).1 36 16).toNatClampNeg) x2).1 36 16).toNatClampNeg) ((setI (setI σ2 48 ((σ2.1 36 16).toNatClampNeg) x1) 49 (((setI σ2 48 ((σ2.1 36 16).toNatClampNeg) x1).1 36 16).toNatClampNeg) x2).1 36 32)) 51 (((setI (setI (setI σ2 48 ((σ2.1 36 16).toNatClampNeg) x1) 49 (((setI σ2 48 ((σ2.1 36 16).toNatClampNeg) x1).1 36 16).toNatClampNeg) x2) 50 (((setI (setI σ2 48 ((σ2.1 36 16).toNatClampNeg) x1) 49 (((setI σ2 48 ((σ2.1 36 16).toNatClampNeg) x1).1 36 16).toNatClampNeg) x2).1 36 16).toNatClampNeg) ((setI (setI σ2 48 ((σ2.1 36 16).toNatClampNeg) x1) 49 (((setI σ2 48 ((σ2.1 36 16).toNatClampNeg) x1).1 36 16).toNatClampNeg) x2).1 36 32)).1 36 16).toNatClampNeg) (((setI (setI (setI σ2 48 ((σ2.1 36 16).toNatClampNeg) x1) 49 (((setI σ2 48 ((σ2.1 36 16).toNatClampNeg) x1).1 36 16).toNatClampNeg) x2) 50 (((setI (setI σ2 48 ((σ2.1 36 16).toNatClampNeg) x1) 49 (((setI σ2 48 ((σ2.1 36 16).toNatClampNeg) x1).1 36 16).toNatClampNeg) x2).1 36 16).toNatClampNeg) ((setI (setI σ2 48 ((σ2.1 36 16).toNatClampNeg) x1) 49 (((setI σ2 48 ((σ2.1 36 16).toNatClampNeg) x1).1 36 16).toNatClampNeg) x2).1 36 32)).1 36 32) * ((setI (setI (setI σ2 48 ((σ2.1 36 16).toNatClampNeg) x1) 49 (((setI σ2 48 ((σ2.1 36 16).toNatClampNeg) x1).1 36 16).toNatClampNeg) x2) 50 (((setI (setI σ2 48 ((σ2.1 36 16).toNatClampNeg) x1) 49 (((setI σ2 48 ((σ2.1 36 16).toNatClampNeg) x1).1 36 16).toNatClampNeg) x2).1 36 16).toNatClampNeg) ((setI (setI σ2 48 ((σ2.1 36 16).toNatClampNeg) x1) 49 (((setI σ2 48 ((σ2.1 36 16).toNatClampNeg) x1).1 36 16).toNatClampNeg) x2).1 36 32)).1 36 1))).1 36 16).toNatClampNeg) ((setI (setI (setI (setI σ2 48 ((σ2.1 36 16).toNatClampNeg) x1) 49 (((setI σ2 48 ((σ2.1 36 16).toNatClampNeg) x1).1 36 16).toNatClampNeg) x2) 50 (((setI (setI σ2 48 ((σ2.1 36 16).toNatClampNeg) x1) 49 (((setI σ2 48 ((σ2.1 36 16).toNatClampNeg) x1).1 36 16).toNatClampNeg) x2).1 36 16).toNatClampNeg) ((setI (setI σ2 48 ((σ2.1 36 16).toNatClampNeg) x1) 49 (((setI σ2 48 ((σ2.1 36 16).toNatClampNeg) x1).1 36 16).toNatClampNeg) x2).1 36 32)) 51 (((setI (setI (setI σ2 48 ((σ2.1 36 16).toNatClampNeg) x1) 49 (((setI σ2 48 ((σ2.1 36 16).toNatClampNeg) x1).1 36 16).toNatClampNeg) x2) 50 (((setI (setI σ2 48 ((σ2.1 36 16).toNatClampNeg) x1) 49 (((setI σ2 48 ((σ2.1 36 16).toNatClampNeg) x1).1 36 16).toNatClampNeg) x2).1 36 16).toNatClampNeg) ((setI (setI σ2 48 ((σ2.1 36 16).toNatClampNeg) x1) 49 (((setI σ2 48 ((σ2.1 36 16).toNatClampNeg) x1).1 36 16).toNatClampNeg) x2).1 36 32)).1 36 16).toNatClampNeg) (((setI (setI (setI σ2 48 ((σ2.1 36 16).toNatClampNeg) x1) 49 (((setI σ2 48 ((σ2.1 36 16).toNatClampNeg) x1).1 36 16).toNatClampNeg) x2) 50 (((setI (setI σ2 48 ((σ2.1 36 16).toNatClampNeg) x1) 49 (((setI σ2 48 ((σ2.1 36 16).toNatClampNeg) x1).1 36 16).toNatClampNeg) x2).1 36 16).toNatClampNeg) ((setI (setI σ2 48 ((σ2.1 36 16).toNatClampNeg) x1) 49 (((setI σ2 48 ((σ2.1 36 16).toNatClampNeg) x1).1 36 16).toNatClampNeg) x2).1 36 32)).1 36 32) * ((setI (setI (setI σ2 48 ((σ2.1 36 16).toNatClampNeg) x1) 49 (((setI σ2 48 ((σ2.1 36 16).toNatClampNeg) x1).1 36 16).toNatClampNeg) x2) 50 (((setI (setI σ2 48 ((σ2.1 36 16).toNatClampNeg) x1) 49 (((setI σ2 48 ((σ2.1 36 16).toNatClampNeg) x1).1 36 16).toNatClampNeg) x2).1 36 16).toNatClampNeg) ((setI (setI σ2 48 ((σ2.1 36 16).toNatClampNeg) x1) 49 (((setI σ2 48 ((σ2.1 36 16).toNatClampNeg) x1).1 36 16).toNatClampNeg) x2).1 36 32)).1 36 1))).1 36 33)).1 36 16).toNatClampNeg) x3) 36 16 (((setI (setI (setI (setI (setI (setI σ2 48 ((σ2.1 36 16).toNatClampNeg) x1) 49 (((setI σ2 48 ((σ2.1 36 16).toNatClampNeg) x1).1 36 16).toNatClampNeg) x2) 50 (((setI (setI σ2 48 ((σ2.1 36 16).toNatClampNeg) x1) 49 (((setI σ2 48 ((σ2.1 36 16).toNatClampNeg) x1).1 36 16).toNatClampNeg) x2).1 36 16).toNatClampNeg) ((setI (setI σ2 48 ((σ2.1 36 16).toNatClampNeg) x1) 49 (((setI σ2 48 ((σ2.1 36 16).toNatClampNeg) x1).1 36 16).toNatClampNeg) x2).1 36 32)) 51 (((setI (setI (setI σ2 48 ((σ2.1 36 16).toNatClampNeg) x1) 49 (((setI σ2 48 ((σ2.1 36 16).toNatClampNeg) x1).1 36 16).toNatClampNeg) x2) 50 (((setI (setI σ2 48 ((σ2.1 36 16).toNatClampNeg) x1) 49 (((setI σ2 48 ((σ2.1 36 16).toNatClampNeg) x1).1 36 16).toNatClampNeg) x2).1 36 16).toNatClampNeg) ((setI (setI σ2 48 ((σ2.1 36 16).toNatClampNeg) x1) 49 (((setI σ2 48 ((σ2.1 36 16).toNatClampNeg) x1).1 36 16).toNatClampNeg) x2).1 36 32)).1 36 16).toNatClampNeg) (((setI (setI (setI σ2 48 ((σ2.1 36 16).toNatClampNeg) x1) 49 (((setI σ2 48 ((σ2.1 36 16).toNatClampNeg) x1).1 36 16).toNatClampNeg) x2) 50 (((setI (setI σ2 48 ((σ2.1 36 16).toNatClampNeg) x1) 49 (((setI σ2 48 ((σ2.1 36 16).toNatClampNeg) x1).1 36 16).toNatClampNeg) x2).1 36 16).toNatClampNeg) ((setI (setI σ2 48 ((σ2.1 36 16).toNatClampNeg) x1) 49 (((setI σ2 48 ((σ2.1 36 16).toNatClampNeg) x1).1 36 16).toNatClampNeg) x2).1 36 32)).1 36 32) * ((setI (setI (setI σ2 48 ((σ2.1 36 16).toNatClampNeg) x1) 49 (((setI σ2 48 ((σ2.1 36 16).toNatClampNeg) x1).1 36 16).toNatClampNeg) x2) 50 (((setI (setI σ2 48 ((σ2.1 36 16).toNatClampNeg) x1) 49 (((setI σ2 48 ((σ2.1 36 16).toNatClampNeg) x1).1 36 16).toNatClampNeg) x2).1 36 16).toNatClampNeg) ((setI (setI σ2 48 ((σ2.1 36 16).toNatClampNeg) x1) 49 (((setI σ2 48 ((σ2.1 36 16).toNatClampNeg) x1).1 36 16).toNatClampNeg) x2).1 36 32)).1 36 1))) 52 (((setI (setI (setI (setI σ2 48 ((σ2.1 36 16).toNatClampNeg) x1) 49 (((setI σ2 48 ((σ2.1 36 16).toNatClampNeg) x1).1 36 16).toNatClampNeg) x2) 50 (((setI (setI σ2 48 ((σ2.1 36 16).toNatClampNeg) x1) 49 (((setI σ2 48 ((σ2.1 36 16).toNatClampNeg) x1).1 36 16).toNatClampNeg) x2).1 36 16).toNatClampNeg) ((setI (setI σ2 48 ((σ2.1 36 16).toNatClampNeg) x1) 49 (((setI σ2 48 ((σ2.1 36 16).toNatClampNeg) x1).1 36 16).toNatClampNeg) x2).1 36 32)) 51 (((setI (setI (setI σ2 48 ((σ2.1 36 16).toNatClampNeg) x1) 49 (((setI σ2 48 ((σ2.1 36 16).toNatClampNeg) x1).1 36 16).toNatClampNeg) x2) 50 (((setI (setI σ2 48 ((σ2.1 36 16).toNatClampNeg) x1) 49 (((setI σ2 48 ((σ2.1 36 16).toNatClampNeg) x1).1 36 16).toNatClampNeg) x2).1 36 16).toNatClampNeg) ((setI (setI σ2 48 ((σ2.1 36 16).toNatClampNeg) x1) 49 (((setI σ2 48 ((σ2.1 36 16).toNatClampNeg) x1).1 36 16).toNatClampNeg) x2).1 36 32)).1 36 16).toNatClampNeg) (((setI (setI (setI σ2 48 ((σ2.1 36 16).toNatClampNeg) x1) 49 (((setI σ2 48 ((σ2.1 36 16).toNatClampNeg) x1).1 36 16).toNatClampNeg) x2) 50 (((setI (setI σ2 48 ((σ2.1 36 16).toNatClampNeg) x1) 49 (((setI σ2 48 ((σ2.1 36 16).toNatClampNeg) x1).1 36 16).toNatClampNeg) x2).1 36 16).toNatClampNeg) ((setI (setI σ2 48 ((σ2.1 36 16).toNatClampNeg) x1) 49 (((setI σ2 48 ((σ2.1 36 16).toNatClampNeg) x1).1 36 16).toNatClampNeg) x2).1 36 32)).1 36 32) * ((setI (setI (setI σ2 48 ((σ2.1 36 16).toNatClampNeg) x1) 49 (((setI σ2 48 ((σ2.1 36 16).toNatClampNeg) x1).1 36 16).toNatClampNeg) x2) 50 (((setI (setI σ2 48 ((σ2.1 36 16).toNatClampNeg) x1) 49 (((setI σ2 48 ((σ2.1 36 16).toNatClampNeg) x1).1 36 16).toNatClampNeg) x2).1 36 16).toNatClampNeg) ((setI (setI σ2 48 ((σ2.1 36 16).toNatClampNeg) x1) 49 (((setI σ2 48 ((σ2.1 36 16).toNatClampNeg) x1).1 36 16).toNatClampNeg) x2).1 36 32)).1 36 1))).1 36 16).toNatClampNeg) ((setI (setI (setI (setI σ2 48 ((σ2.1 36 16).toNatClampNeg) x1) 49 (((setI σ2 48 ((σ2.1 36 16).toNatClampNeg) x1).1 36 16).toNatClampNeg) x2) 50 (((setI (setI σ2 48 ((σ2.1 36 16).toNatClampNeg) x1) 49 (((setI σ2 48 ((σ2.1 36 16).toNatClampNeg) x1).1 36 16).toNatClampNeg) x2).1 36 16).toNatClampNeg) ((setI (setI σ2 48 ((σ2.1 36 16).toNatClampNeg) x1) 49 (((setI σ2 48 ((σ2.1 36 16).toNatClampNeg) x1).1 36 16).toNatClampNeg) x2).1 36 32)) 51 (((setI (setI (setI σ2 48 ((σ2.1 36 16).toNatClampNeg) x1) 49 (((setI σ2 48 ((σ2.1 36 16).toNatClampNeg) x1).1 36 16).toNatClampNeg) x2) 50 (((setI (setI σ2 48 ((σ2.1 36 16).toNatClampNeg) x1) 49 (((setI σ2 48 ((σ2.1 36 16).toNatClampNeg) x1).1 36 16).toNatClampNeg) x2).1 36 16).toNatClampNeg) ((setI (setI σ2 48 ((σ2.1 36 16).toNatClampNeg) x1) 49 (((setI σ2 48 ((σ2.1 36 16).toNatClampNeg) x1).1 36 16).toNatClampNeg) x2).1 36 32)).1 36 16).toNatClampNeg) (((setI (setI (setI σ2 48 ((σ2.1 36 16).toNatClampNeg) x1) 49 (((setI σ2 48 ((σ2.1 36 16).toNatClampNeg) x1).1 36 16).toNatClampNeg) x2) 50 (((setI (setI σ2 48 ((σ2.1 36 16).toNatClampNeg) x1) 49 (((setI σ2 48 ((σ2.1 36 16).toNatClampNeg) x1).1 36 16).toNatClampNeg) x2).1 36 16).toNatClampNeg) ((setI (setI σ2 48 ((σ2.1 36 16).toNatClampNeg) x1) 49 (((setI σ2 48 ((σ2.1 36 16).toNatClampNeg) x1).1 36 16).toNatClampNeg) x2).1 36 32)).1 36 32) * ((setI (setI (setI σ2 48 ((σ2.1 36 16).toNatClampNeg) x1) 49 (((setI σ2 48 ((σ2.1 36 16).toNatClampNeg) x1).1 36 16).toNatClampNeg) x2) 50 (((setI (setI σ2 48 ((σ2.1 36 16).toNatClampNeg) x1) 49 (((setI σ2 48 ((σ2.1 36 16).toNatClampNeg) x1).1 36 16).toNatClampNeg) x2).1 36 16).toNatClampNeg) ((setI (setI σ2 48 ((σ2.1 36 16).toNatClampNeg) x1) 49 (((setI σ2 48 ((σ2.1 36 16).toNatClampNeg) x1).1 36 16).toNatClampNeg) x2).1 36 32)).1 36 1))).1 36 33)) 53 (((setI (setI (setI (setI (setI σ2 48 ((σ2.1 36 16).toNatClampNeg) x1) 49 (((setI σ2 48 ((σ2.1 36 16).toNatClampNeg) x1).1 36 16).toNatClampNeg) x2) 50 (((setI (setI σ2 48 ((σ2.1 36 16).toNatClampNeg) x1) 49 (((setI σ2 48 ((σ2.1 36 16).toNatClampNeg) x1).1 36 16).toNatClampNeg) x2).1 36 16).toNatClampNeg) ((setI (setI σ2 48 ((σ2.1 36 16).toNatClampNeg) x1) 49 (((setI σ2 48 ((σ2.1 36 16).toNatClampNeg) x1).1 36 16).toNatClampNeg) x2).1 36 32)) 51 (((setI (setI (setI σ2 48 ((σ2.1 36 16).toNatClampNeg) x1) 49 (((setI σ2 48 ((σ2.1 36 16).toNatClampNeg) x1).1 36 16).toNatClampNeg) x2) 50 (((setI (setI σ2 48 ((σ2.1 36 16).toNatClampNeg) x1) 49 (((setI σ2 48 ((σ2.1 36 16).toNatClampNeg) x1).1 36 16).toNatClampNeg) x2).1 36 16).toNatClampNeg) ((setI (setI σ2 48 ((σ2.1 36 16).toNatClampNeg) x1) 49 (((setI σ2 48 ((σ2.1 36 16).toNatClampNeg) x1).1 36 16).toNatClampNeg) x2).1 36 32)).1 36 16).toNatClampNeg) (((setI (setI (setI σ2 48 ((σ2.1 36 16).toNatClampNeg) x1) 49 (((setI σ2 48 ((σ2.1 36 16).toNatClampNeg) x1).1 36 16).toNatClampNeg) x2) 50 (((setI (setI σ2 48 ((σ2.1 36 16).toNatClampNeg) x1) 49 (((setI σ2 48 ((σ2.1 36 16).toNatClampNeg) x1).1 36 16).toNatClampNeg) x2).1 36 16).toNatClampNeg) ((setI (setI σ2 48 ((σ2.1 36 16).toNatClampNeg) x1) 49 (((setI σ2 48 ((σ2.1 36 16).toNatClampNeg) x1).1 36 16).toNatClampNeg) x2).1 36 32)).1 36 32) * ((setI (setI (setI σ2 48 ((σ2.1 36 16).toNatClampNeg) x1) 49 (((setI σ2 48 ((σ2.1 36 16).toNatClampNeg) x1).1 36 16).toNatClampNeg) x2) 50 (((setI (setI σ2 48 ((σ2.1 36 16).toNatClampNeg) x1) 49 (((setI σ2 48 ((σ2.1 36 16).toNatClampNeg) x1).1 36 16).toNatClampNeg) x2).1 36 16).toNatClampNeg) ((setI (setI σ2 48 ((σ2.1 36 16).toNatClampNeg) x1) 49 (((setI σ2 48 ((σ2.1 36 16).toNatClampNeg) x1).1 36 16).toNatClampNeg) x2).1 36 32)).1 36 1))) 52 (((setI (setI (setI (setI σ2 48 ((σ2.1 36 16).toNatClampNeg) x1) 49 (((setI σ2 48 ((σ2.1 36 16).toNatClampNeg) x1).1 36 16).toNatClampNeg) x2) 50 (((setI (setI σ2 48 ((σ2.1 36 16).toNatClampNeg) x1) 49 (((setI σ2 48 ((σ2.1 36 16).toNatClampNeg) x1).1 36 16).toNatClampNeg) x2).1 36 16).toNatClampNeg) ((setI (setI σ2 48 ((σ2.1 36 16).toNatClampNeg) x1) 49 (((setI σ2 48 ((σ2.1 36 16).toNatClampNeg) x1).1 36 16).toNatClampNeg) x2).1 36 32)) 51 (((setI (setI (setI σ2 48 ((σ2.1 36 16).toNatClampNeg) x1) 49 (((setI σ2 48 ((σ2.1 36 16).toNatClampNeg) x1).1 36 16).toNatClampNeg) x2) 50 (((setI (setI σ2 48 ((σ2.1 36 16).toNatClampNeg) x1) 49 (((setI σ2 48 ((σ2.1 36 16).toNatClampNeg) x1).1 36 16).toNatClampNeg) x2).1 36 16).toNatClampNeg) ((setI (setI σ2 48 ((σ2.1 36 16).toNatClampNeg) x1) 49 (((setI σ2 48 ((σ2.1 36 16).toNatClampNeg) x1).1 36 16).toNatClampNeg) x2).1 36 32)).1 36 16).toNatClampNeg) (((setI (setI (setI σ2 48 ((σ2.1 36 16).toNatClampNeg) x1) 49 (((setI σ2 48 ((σ2.1 36 16).toNatClampNeg) x1).1 36 16).toNatClampNeg) x2) 50 (((setI (setI σ2 48 ((σ2.1 36 16).toNatClampNeg) x1) 49 (((setI σ2 48 ((σ2.1 36 16).toNatClampNeg) x1).1 36 16).toNatClampNeg) x2).1 36 16).toNatClampNeg) ((setI (setI σ2 48 ((σ2.1 36 16).toNatClampNeg) x1) 49 (((setI σ2 48 ((σ2.1 36 16).toNatClampNeg) x1).1 36 16).toNatClampNeg) x2).1 36 32)).1 36 32) * ((setI (setI (setI σ2 48 ((σ2.1 36 16).toNatClampNeg) x1) 49 (((setI σ2 48 ((σ2.1 36 16).toNatClampNeg) x1).1 36 16).toNatClampNeg) x2) 50 (((setI (setI σ2 48 ((σ2.1 36 16).toNatClampNeg) x1) 49 (((setI σ2 48 ((σ2.1 36 16).toNatClampNeg) x1).1 36 16).toNatClampNeg) x2).1 36 16).toNatClampNeg) ((setI (setI σ2 48 ((σ2.1 36 16).toNatClampNeg) x1) 49 (((setI σ2 48 ((σ2.1 36 16).toNatClampNeg) x1).1 36 16).toNatClampNeg) x2).1 36 32)).1 36 1))).1 36 16).toNatClampNeg) ((setI (setI (setI (setI σ2 48 ((σ2.1 36 16).toNatClampNeg) x1) 49 (((setI σ2 48 ((σ2.1 36 16).toNatClampNeg) x1).1 36 16).toNatClampNeg) x2) 50 (((setI (setI σ2 48 ((σ2.1 36 16).toNatClampNeg) x1) 49 (((setI σ2 48 ((σ2.1 36 16).toNatClampNeg) x1).1 36 16).toNatClampNeg) x2).1 36 16).toNatClampNeg) ((setI (setI σ2 48 ((σ2.1 36 16).toNatClampNeg) x1) 49 (((setI σ2 48 ((σ2.1 36 16).toNatClampNeg) x1).1 36 16).toNatClampNeg) x2).1 36 32)) 51 (((setI (setI (setI σ2 48 ((σ2.1 36 16).toNatClampNeg) x1) 49 (((setI σ2 48 ((σ2.1 36 16).toNatClampNeg) x1).1 36 16).toNatClampNeg) x2) 50 (((setI (setI σ2 48 ((σ2.1 36 16).toNatClampNeg) x1) 49 (((setI σ2 48 ((σ2.1 36 16).toNatClampNeg) x1).1 36 16).toNatClampNeg) x2).1 36 16).toNatClampNeg) ((setI (setI σ2 48 ((σ2.1 36 16).toNatClampNeg) x1) 49 (((setI σ2 48 ((σ2.1 36 16).toNatClampNeg) x1).1 36 16).toNatClampNeg) x2).1 36 32)).1 36 16).toNatClampNeg) (((setI (setI (setI σ2 48 ((σ2.1 36 16).toNatClampNeg) x1) 49 (((setI σ2 48 ((σ2.1 36 16).toNatClampNeg) x1).1 36 16).toNatClampNeg) x2) 50 (((setI (setI σ2 48 ((σ2.1 36 16).toNatClampNeg) x1) 49 (((setI σ2 48 ((σ2.1 36 16).toNatClampNeg) x1).1 36 16).toNatClampNeg) x2).1 36 16).toNatClampNeg) ((setI (setI σ2 48 ((σ2.1 36 16).toNatClampNeg) x1) 49 (((setI σ2 48 ((σ2.1 36 16).toNatClampNeg) x1).1 36 16).toNatClampNeg) x2).1 36 32)).1 36 32) * ((setI (setI (setI σ2 48 ((σ2.1 36 16).toNatClampNeg) x1) 49 (((setI σ2 48 ((σ2.1 36 16).toNatClampNeg) x1).1 36 16).toNatClampNeg) x2) 50 (((setI (setI σ2 48 ((σ2.1 36 16).toNatClampNeg) x1) 49 (((setI σ2 48 ((σ2.1 36 16).toNatClampNeg) x1).1 36 16).toNatClampNeg) x2).1 36 16).toNatClampNeg) ((setI (setI σ2 48 ((σ2.1 36 16).toNatClampNeg) x1) 49 (((setI σ2 48 ((σ2.1 36 16).toNatClampNeg) x1).1 36 16).toNatClampNeg) x2).1 36 32)).1 36 1))).1 36 33)).1 36 16).toNatClampNeg) x3).1 36 16) + 1)) [(.aload_n 0, 1, 0, 0, 0, 0), (.getfield 53, 3, 0, 0, 6, 17), (.aload_n 0, 1, 0, 0, 0, 0), (.getfield 166, 3, 0, 0, 6, 16), (.iload_n 1, 1, 0, 0, 0, 0), (.iastore, 1, 0, 0, 0, 0), (.aload_n 0, 1, 0, 0, 0, 0), (.getfield 56, 3, 0, 0, 6, 18), (.aload_n 0, 1, 0, 0, 0, 0), (.getfield 166, 3, 0, 0, 6, 16), (.iload_n 2, 1, 0, 0, 0, 0), (.iastore, 1, 0, 0, 0, 0), (.aload_n 0, 1, 0, 0, 0, 0), (.getfield 59, 3, 0, 0, 6, 19), (.aload_n 0, 1, 0, 0, 0, 0), (.getfield 166, 3, 0, 0, 6, 16), (.aload_n 0, 1, 0, 0, 0, 0), (.getfield 214, 3, 0, 0, 6, 32), (.iastore, 1, 0, 0, 0, 0), (.aload_n 0, 1, 0, 0, 0, 0), (.getfield 62, 3, 0, 0, 6, 20), (.aload_n 0, 1, 0, 0, 0, 0), (.getfield 166, 3, 0, 0, 6, 16), (.aload_n 0, 1, 0, 0, 0, 0), (.getfield 214, 3, 0, 0, 6, 32), (.aload_n 0, 1, 0, 0, 0, 0), (.getfield 13, 3, 0, 0, 6, 1), (.imul, 1, 0, 0, 0, 0), (.iastore, 1, 0, 0, 0, 0), (.aload_n 0, 1, 0, 0, 0, 0), (.getfield 65, 3, 0, 0, 6, 21), (.aload_n 0, 1, 0, 0, 0, 0), (.getfield 166, 3, 0, 0, 6, 16), (.aload_n 0, 1, 0, 0, 0, 0), (.getfield 221, 3, 0, 0, 6, 33), (.iastore, 1, 0, 0, 0, 0), (.aload_n 0, 1, 0, 0, 0, 0), (.getfield 68, 3, 0, 0, 6, 22), (.aload_n 0, 1, 0, 0, 0, 0), (.getfield 166, 3, 0, 0, 6, 16), (.iload_n 3, 1, 0, 0, 0, 0), (.bastore, 1, 0, 0, 0, 0), (.aload_n 0, 1, 0, 0, 0, 0), (.dup, 1, 0, 0, 0, 0), (.getfield 166, 3, 0, 0, 6, 16), (.iconst 1, 1, 1, 0, 0, 0), (.iadd, 1, 0, 0, 0, 0), (.putfield 166, 3, 0, 0, 6, 16)] (pc2 := 97) (by decide +kernel) rfl (And.intro kd_36 (And.intro kd_36 (And.intro kd_48 (And.intro g3 (And.intro kd_36 (And.intro kd_36 (And.intro kd_49 (And.intro g4 (And.intro kd_36 (And.intro kd_36 (And.intro kd_36 (And.intro kd_50 (And.intro g5 (And.intro kd_36 (And.intro kd_36 (And.intro kd_36 (And.intro kd_36 (And.intro kd_51 (And.intro g6 (And.intro kd_36 (And.intro kd_36 (And.intro kd_36 (And.intro kd_52 (And.intro g7 (And.intro kd_36 (And.intro kd_36 (And.intro kd_53 (And.intro g8 (And.intro g9 (And.intro kd_36 (And.intro kd_36 trivial))))))))))))))))))))))))))))))) ?_
  obtain rfl := Option.some.inj hf
  exact hm.vret (by decide +kernel)
def fX6_pair_21 (σ : ST) : Option (Int32 × ST) :=
  some ((-1), σ)
set_option maxHeartbeats 4000000 in
theorem wX6_pair_21 {l : Launch} {V : Nat → List (Option Value) → List Value → ST → Prop} {r : Int32} {τ : ST} {σ : ST} (hm : BM l 6 cX6_pair 4 (some .int) 5 118 (some (.int r)) τ V) (hf : fX6_pair_21 σ = some (r, τ)) : V 21 [none, none, none, none] [] σ := by
  have h := hm.bd
  unfold fX6_pair_21 at hf
  refine h.run (o := []) (ls' := [none, none, none, none]) (st' := [.int (-1)]) (σ' := σ) [(.iconst (-1), 1, (-1), 0, 0, 0)] (pc2 := 22) (by decide +kernel) rfl trivial ?_
  obtain ⟨rfl, rfl⟩ := Prod.mk.inj (Option.some.inj hf)
  exact hm.iret (by decide +kernel)
def fX6_pair (x1 : Int32) (x2 : Int32) (x3 : Int32) (σ : ST) : Option (Int32 × ST) :=
  bR (fX6_isSender x1 (setI σ 36 23 0)) fun a1 =>
  if a1 = 0 then
    fX6_pair_21 (setI σ 36 23 0)
  else
    bR (fX6_isReturner x2 (setI σ 36 23 0)) fun a2 =>
    if a2 = 0 then
      fX6_pair_21 (setI σ 36 23 0)
    else
      if ((setI σ 36 23 0).1 36 16) = 100 then
        some ((-2), setI σ 36 23 0)
      else
        bR (fX6_write x1 x2 x3 (setI σ 36 23 0)) fun σ3 =>
        some (σ3.1 36 32, σ3)
set_option maxHeartbeats 4000000 in
theorem kmX6_pair (l : Launch) {x1 : Int32} {x2 : Int32} {x3 : Int32} {σ : ST} {r : Int32} {τ : ST} (hf : fX6_pair x1 x2 x3 σ = some (r, τ)) : KM l yX6_pair cX6_pair 4 (some .int) 5 118 [.ref 36, .int x1, .int x2, .int x3] σ (some (.int r)) τ := by
  refine KM.intro (ow := 6) (by decide +kernel) rfl (Nat.le_of_ble_eq_true rfl) (fun V hm => ?_)
  show V 0 [some (.ref 36), some (.int x1), some (.int x2), some (.int x3)] [] σ
  have h := hm.bd
  unfold fX6_pair at hf
  refine h.run (o := [kd 36 = 6]) (ls' := [some (.ref 36), some (.int x1), some (.int x2), some (.int x3)]) (st' := [.int x1, .ref 36]) (σ' := setI σ 36 23 0) [(.aload_n 0, 1, 0, 0, 0, 0), (.iconst 0, 1, 0, 0, 0, 0), (.putfield 112, 3, 0, 0, 6, 23), (.aload_n 0, 1, 0, 0, 0, 0), (.iload_n 1, 1, 0, 0, 0, 0)] (pc2 := 7) (by decide +kernel) rfl (And.intro kd_36 trivial) ?_
  obtain ⟨a1, e1, hf⟩ := bR_some hf
  refine h.callV (as := [.int x1]) (rest := []) (by decide +kernel) lk6_183 cwX6_isSender kd_36 (kmX6_isSender l e1) rfl (Nat.le_of_ble_eq_true rfl) (Nat.le_of_ble_eq_true rfl) (Nat.le_of_ble_eq_true rfl) ?_
  show V 10 [some (.ref 36), some (.int x1), some (.int x2), some (.int x3)] [.int a1] (setI σ 36 23 0)
  refine h.if_eq (tgt := 21) (show decode cX6_pair 10 = .ok (.ifCond .eq 11, 3) by decide +kernel) (by decide) (fun c6 => ?_) (fun c6 => ?_)
  · rw [if_pos c6] at hf
    refine h.drop (ls' := [none, none, none, none]) trivial ?_
    exact wX6_pair_21 hm hf
  · rw [if_neg c6] at hf
    show V 13 [some (.ref 36), some (.int x1), some (.int x2), some (.int x3)] [] (setI σ 36 23 0)
    refine h.run (o := []) (ls' := [some (.ref 36), some (.int x1), some (.int x2), some (.int x3)]) (st' := [.int x2, .ref 36]) (σ' := setI σ 36 23 0) [(.aload_n 0, 1, 0, 0, 0, 0), (.iload_n 2, 1, 0, 0, 0, 0)] (pc2 := 15) (by decide +kernel) rfl trivial ?_
    obtain ⟨a2, e2, hf⟩ := bR_some hf
    refine h.callV (as := [.int x2]) (rest := []) (by decide +kernel) lk6_188 cwX6_isReturner kd_36 (kmX6_isReturner l e2) rfl (Nat.le_of_ble_eq_true rfl) (Nat.le_of_ble_eq_true rfl) (Nat.le_of_ble_eq_true rfl) ?_
    show V 18 [some (.ref 36), some (.int x1), some (.int x2), some (.int x3)] [.int a2] (setI σ 36 23 0)
    refine h.if_ne (tgt := 23) (show decode cX6_pair 18 = .ok (.ifCond .ne 5, 3) by decide +kernel) (by decide) (fun c5 => ?_) (fun c5 => ?_)
    · rw [if_neg c5] at hf
      refine h.run (o := [kd 36 = 6]) (ls' := [some (.ref 36), some (.int x1), some (.int x2), some (.int x3)]) (st' := [.int 100, .int ((setI σ 36 23 0).1 36 16)]) (σ' := setI σ 36 23 0) [(.aload_n 0, 1, 0, 0, 0, 0), (.getfield 166, 3, 0, 0, 6, 16), (.bipush 100, 2, 100, 0, 0, 0)] (pc2 := 29) (by decide +kernel) rfl (And.intro kd_36 trivial) ?_
      refine h.icmp_ne (tgt := 35) (show decode cX6_pair 29 = .ok (.if_icmp .ne 6, 3) by decide +kernel) (by decide) (fun c4 => ?_) (fun c4 => ?_)
      · rw [if_neg c4] at hf
        refine h.run (o := []) (ls' := [some (.ref 36), some (.int x1), some (.int x2), some (.int x3)]) (st' := [.int x3, .int x2, .int x1, .ref 36]) (σ' := setI σ 36 23 0) [(.aload_n 0, 1, 0, 0, 0, 0), (.iload_n 1, 1, 0, 0, 0, 0), (.iload_n 2, 1, 0, 0, 0, 0), (.iload_n 3, 1, 0, 0, 0, 0)] (pc2 := 39) (by decide +kernel) rfl trivial ?_
        obtain ⟨σ3, e3, hf⟩ := bR_some hf
        refine h.callV (as := [.int x1, .int x2, .int x3]) (rest := []) (by decide +kernel) lk6_228 cwX6_write kd_36 (kmX6_write l e3) rfl (Nat.le_of_ble_eq_true rfl) (Nat.le_of_ble_eq_true rfl) (Nat.le_of_ble_eq_true rfl) ?_
        show V 42 [some (.ref 36), some (.int x1), some (.int x2), some (.int x3)] [] σ3
        refine h.run (o := [kd 36 = 6]) (ls' := [some (.ref 36), some (.int x1), some (.int x2), some (.int x3)]) (st' := [.int (σ3.1 36 32)]) (σ' := σ3) [(.aload_n 0, 1, 0, 0, 0, 0), (.getfield 214, 3, 0, 0, 6, 32)] (pc2 := 46) (by decide +kernel) rfl (And.intro kd_36 trivial) ?_
        obtain ⟨rfl, rfl⟩ := Prod.mk.inj (Option.some.inj hf)
        exact hm.iret (by decide +kernel)
      · rw [if_pos c4] at hf
        show V 32 [some (.ref 36), some (.int x1), some (.int x2), some (.int x3)] [] (setI σ 36 23 0)
        refine h.run (o := []) (ls' := [some (.ref 36), some (.int x1), some (.int x2), some (.int x3)]) (st' := [.int (-2)]) (σ' := setI σ 36 23 0) [(.bipush (-2), 2, (-2), 0, 0, 0)] (pc2 := 34) (by decide +kernel) rfl trivial ?_
        obtain ⟨rfl, rfl⟩ := Prod.mk.inj (Option.some.inj hf)
        exact hm.iret (by decide +kernel)
    · rw [if_pos c5] at hf
      show V 21 [some (.ref 36), some (.int x1), some (.int x2), some (.int x3)] [] (setI σ 36 23 0)
      refine h.drop (ls' := [none, none, none, none]) trivial ?_
      exact wX6_pair_21 hm hf
def fX6_all_54 (kt_44 : Int32 → ST → Option (Int32 × ST)) (n : Nat) (x1 : Int32) (x2 : Int32) (σ : ST) : Option (Int32 × ST) := match n with
  | 0 => none
  | n + 1 =>
    if (σ.1 36 7) ≤ x2 then
      kt_44 (x1 + 1) σ
    else
      bR (fX6_write x1 x2 0 σ) fun σ1 =>
      fX6_all_54 kt_44 n x1 (x2 + 1) σ1
set_option maxHeartbeats 4000000 in
theorem wX6_all_54 {l : Launch} {V : Nat → List (Option Value) → List Value → ST → Prop} {r : Int32} {τ : ST} {kt_44 : Int32 → ST → Option (Int32 × ST)} (hm : BM l 6 cX6_all 3 (some .int) 5 118 (some (.int r)) τ V) (hkt_44 : ∀ (x1 : Int32) (σ : ST), kt_44 x1 σ = some (r, τ) → V 44 [some (.ref 36), some (.int x1), none] [] σ) : ∀ (n : Nat) (x1 : Int32) (x2 : Int32) (σ : ST), fX6_all_54 kt_44 n x1 x2 σ = some (r, τ) → V 54 [some (.ref 36), some (.int x1), some (.int x2)] [] σ := by
  have h := hm.bd
  intro n
  induction n with
  | zero => intro x1 x2 σ hf; cases hf
  | succ n ih =>
    intro x1 x2 σ hf
    rw [fX6_all_54] at hf
    refine h.run (o := [kd 36 = 6]) (ls' := [some (.ref 36), some (.int x1), some (.int x2)]) (st' := [.int (σ.1 36 7), .int x2]) (σ' := σ) [(.iload_n 2, 1, 0, 0, 0, 0), (.aload_n 0, 1, 0, 0, 0, 0), (.getfield 123, 3, 0, 0, 6, 7)] (pc2 := 59) (by decide +kernel) rfl (And.intro kd_36 trivial) ?_
    refine h.icmp_ge (tgt := 75) (show decode cX6_all 59 = .ok (.if_icmp .ge 16, 3) by decide +kernel) (by decide) (fun c2 => ?_) (fun c2 => ?_)
    · rw [if_pos c2] at hf
      refine h.run (o := []) (ls' := [some (.ref 36), some (.int (x1 + 1)), some (.int x2)]) (st' := []) (σ' := σ) [(.iinc 1 1, 3, 1, 0, 0, 0), (.goto (-34), 3, 0, 0, 0, 44)] (pc2 := 44) (by decide +kernel) rfl trivial ?_
      refine h.drop (ls' := [some (.ref 36), some (.int (x1 + 1)), none]) (And.intro rfl (And.intro rfl trivial)) ?_
      exact hkt_44 (x1 + 1) _ hf
    · rw [if_neg c2] at hf
      show V 62 [some (.ref 36), some (.int x1), some (.int x2)] [] σ
      refine h.run (o := []) (ls' := [some (.ref 36), some (.int x1), some (.int x2)]) (st' := [.int 0, .int x2, .int x1, .ref 36]) (σ' := σ) [(.aload_n 0, 1, 0, 0, 0, 0), (.iload_n 1, 1, 0, 0, 0, 0), (.iload_n 2, 1, 0, 0, 0, 0), (.iconst 0, 1, 0, 0, 0, 0)] (pc2 := 66) (by decide +kernel) rfl trivial ?_
      obtain ⟨σ1, e1, hf⟩ := bR_some hf
      refine h.callV (as := [.int x1, .int x2, .int 0]) (rest := []) (by decide +kernel) lk6_228 cwX6_write kd_36 (kmX6_write l e1) rfl (Nat.le_of_ble_eq_true rfl) (Nat.le_of_ble_eq_true rfl) (Nat.le_of_ble_eq_true rfl) ?_
      show V 69 [some (.ref 36), some (.int x1), some (.int x2)] [] σ1
      refine h.run (o := []) (ls' := [some (.ref 36), some (.int x1), some (.int (x2 + 1))]) (st' := []) (σ' := σ1) [(.iinc 2 1, 3, 1, 0, 0, 0), (.goto (-18), 3, 0, 0, 0, 54)] (pc2 := 54) (by decide +kernel) rfl trivial ?_
      exact ih x1 (x2 + 1) _ hf
def fX6_all_44 (n : Nat) (x1 : Int32) (σ : ST) : Option (Int32 × ST) := match n with
  | 0 => none
  | n + 1 =>
    if (σ.1 36 3) ≤ x1 then
      some (σ.1 36 16, σ)
    else
      fX6_all_54 (fX6_all_44 n) FU x1 0 σ
set_option maxHeartbeats 4000000 in
theorem wX6_all_44 {l : Launch} {V : Nat → List (Option Value) → List Value → ST → Prop} {r : Int32} {τ : ST} (hm : BM l 6 cX6_all 3 (some .int) 5 118 (some (.int r)) τ V) : ∀ (n : Nat) (x1 : Int32) (σ : ST), fX6_all_44 n x1 σ = some (r, τ) → V 44 [some (.ref 36), some (.int x1), none] [] σ := by
  have h := hm.bd
  intro n
  induction n with
  | zero => intro x1 σ hf; cases hf
  | succ n ih =>
    intro x1 σ hf
    rw [fX6_all_44] at hf
    refine h.run (o := [kd 36 = 6]) (ls' := [some (.ref 36), some (.int x1), none]) (st' := [.int (σ.1 36 3), .int x1]) (σ' := σ) [(.iload_n 1, 1, 0, 0, 0, 0), (.aload_n 0, 1, 0, 0, 0, 0), (.getfield 116, 3, 0, 0, 6, 3)] (pc2 := 49) (by decide +kernel) rfl (And.intro kd_36 trivial) ?_
    refine h.icmp_ge (tgt := 81) (show decode cX6_all 49 = .ok (.if_icmp .ge 32, 3) by decide +kernel) (by decide) (fun c1 => ?_) (fun c1 => ?_)
    · rw [if_pos c1] at hf
      refine h.run (o := [kd 36 = 6]) (ls' := [some (.ref 36), some (.int x1), none]) (st' := [.int (σ.1 36 16)]) (σ' := σ) [(.aload_n 0, 1, 0, 0, 0, 0), (.getfield 166, 3, 0, 0, 6, 16)] (pc2 := 85) (by decide +kernel) rfl (And.intro kd_36 trivial) ?_
      obtain ⟨rfl, rfl⟩ := Prod.mk.inj (Option.some.inj hf)
      exact hm.iret (by decide +kernel)
    · rw [if_neg c1] at hf
      show V 52 [some (.ref 36), some (.int x1), none] [] σ
      refine h.run (o := []) (ls' := [some (.ref 36), some (.int x1), some (.int 0)]) (st' := []) (σ' := σ) [(.iconst 0, 1, 0, 0, 0, 0), (.istore_n 2, 1, 0, 0, 0, 0)] (pc2 := 54) (by decide +kernel) rfl trivial ?_
      exact wX6_all_54 hm ih FU x1 0 _ hf
def fX6_all (σ : ST) : Option (Int32 × ST) :=
  if (((setI σ 36 23 0).1 36 16) + (((setI σ 36 23 0).1 36 3) * ((setI σ 36 23 0).1 36 7))) ≤ 100 then
    if (((setI σ 36 23 0).1 36 3) * ((setI σ 36 23 0).1 36 7)) = 0 then
      some ((-3), setI σ 36 23 0)
    else
      fX6_all_44 FU 0 (setI σ 36 23 0)
  else
    some ((-2), setI σ 36 23 0)
set_option maxHeartbeats 4000000 in
theorem kmX6_all (l : Launch) {σ : ST} {r : Int32} {τ : ST} (hf : fX6_all σ = some (r, τ)) : KM l yX6_all cX6_all 3 (some .int) 5 118 [.ref 36] σ (some (.int r)) τ := by
  refine KM.intro (ow := 6) (by decide +kernel) rfl (Nat.le_of_ble_eq_true rfl) (fun V hm => ?_)
  show V 0 [some (.ref 36), none, none] [] σ
  have h := hm.bd
  unfold fX6_all at hf
  refine h.run (o := [kd 36 = 6, kd 36 = 6, kd 36 = 6, kd 36 = 6]) (ls' := [some (.ref 36), none, none]) (st' := [.int 100, .int (((setI σ 36 23 0).1 36 16) + (((setI σ 36 23 0).1 36 3) * ((setI σ 36 23 0).1 36 7)))]) (σ' := setI σ 36 23 0) [(.aload_n 0, 1, 0, 0, 0, 0), (.iconst 0, 1, 0, 0, 0, 0), (.putfield 112, 3, 0, 0, 6, 23), (.aload_n 0, 1, 0, 0, 0, 0), (.getfield 166, 3, 0, 0, 6, 16), (.aload_n 0, 1, 0, 0, 0, 0), (.getfield 116, 3, 0, 0, 6, 3), (.aload_n 0, 1, 0, 0, 0, 0), (.getfield 123, 3, 0, 0, 6, 7), (.imul, 1, 0, 0, 0, 0), (.iadd, 1, 0, 0, 0, 0), (.bipush 100, 2, 100, 0, 0, 0)] (pc2 := 21) (by decide +kernel) rfl (And.intro kd_36 (And.intro kd_36 (And.intro kd_36 (And.intro kd_36 trivial)))) ?_
  refine h.icmp_le (tgt := 27) (show decode cX6_all 21 = .ok (.if_icmp .le 6, 3) by decide +kernel) (by decide) (fun c2 => ?_) (fun c2 => ?_)
  · rw [if_pos c2] at hf
    refine h.run (o := [kd 36 = 6, kd 36 = 6]) (ls' := [some (.ref 36), none, none]) (st' := [.int (((setI σ 36 23 0).1 36 3) * ((setI σ 36 23 0).1 36 7))]) (σ' := setI σ 36 23 0) [(.aload_n 0, 1, 0, 0, 0, 0), (.getfield 116, 3, 0, 0, 6, 3), (.aload_n 0, 1, 0, 0, 0, 0), (.getfield 123, 3, 0, 0, 6, 7), (.imul, 1, 0, 0, 0, 0)] (pc2 := 36) (by decide +kernel) rfl (And.intro kd_36 (And.intro kd_36 trivial)) ?_
    refine h.if_ne (tgt := 42) (show decode cX6_all 36 = .ok (.ifCond .ne 6, 3) by decide +kernel) (by decide) (fun c1 => ?_) (fun c1 => ?_)
    · rw [if_neg c1] at hf
      refine h.run (o := []) (ls' := [some (.ref 36), some (.int 0), none]) (st' := []) (σ' := setI σ 36 23 0) [(.iconst 0, 1, 0, 0, 0, 0), (.istore_n 1, 1, 0, 0, 0, 0)] (pc2 := 44) (by decide +kernel) rfl trivial ?_
      exact wX6_all_44 hm FU 0 _ hf
    · rw [if_pos c1] at hf
      show V 39 [some (.ref 36), none, none] [] (setI σ 36 23 0)
      refine h.run (o := []) (ls' := [some (.ref 36), none, none]) (st' := [.int (-3)]) (σ' := setI σ 36 23 0) [(.bipush (-3), 2, (-3), 0, 0, 0)] (pc2 := 41) (by decide +kernel) rfl trivial ?_
      obtain ⟨rfl, rfl⟩ := Prod.mk.inj (Option.some.inj hf)
      exact hm.iret (by decide +kernel)
  · rw [if_neg c2] at hf
    show V 24 [some (.ref 36), none, none] [] (setI σ 36 23 0)
    refine h.run (o := []) (ls' := [some (.ref 36), none, none]) (st' := [.int (-2)]) (σ' := setI σ 36 23 0) [(.bipush (-2), 2, (-2), 0, 0, 0)] (pc2 := 26) (by decide +kernel) rfl trivial ?_
    obtain ⟨rfl, rfl⟩ := Prod.mk.inj (Option.some.inj hf)
    exact hm.iret (by decide +kernel)
def fX6_of_21 (σ : ST) : Option (Int32 × ST) :=
  some ((-1), σ)
set_option maxHeartbeats 4000000 in
theorem wX6_of_21 {l : Launch} {V : Nat → List (Option Value) → List Value → ST → Prop} {r : Int32} {τ : ST} {σ : ST} (hm : BM l 6 cX6_of 3 (some .int) 1 25 (some (.int r)) τ V) (hf : fX6_of_21 σ = some (r, τ)) : V 21 [none, none, none] [] σ := by
  have h := hm.bd
  unfold fX6_of_21 at hf
  refine h.run (o := []) (ls' := [none, none, none]) (st' := [.int (-1)]) (σ' := σ) [(.iconst (-1), 1, (-1), 0, 0, 0)] (pc2 := 22) (by decide +kernel) rfl trivial ?_
  obtain ⟨rfl, rfl⟩ := Prod.mk.inj (Option.some.inj hf)
  exact hm.iret (by decide +kernel)
def fX6_of_117 (t0 : Int32) (σ : ST) : Option (Int32 × ST) :=
  some (t0, σ)
set_option maxHeartbeats 4000000 in
theorem wX6_of_117 {l : Launch} {V : Nat → List (Option Value) → List Value → ST → Prop} {r : Int32} {τ : ST} {σ : ST} {t0 : Int32} (hm : BM l 6 cX6_of 3 (some .int) 1 25 (some (.int r)) τ V) (hf : fX6_of_117 t0 σ = some (r, τ)) : V 117 [none, none, none] [.int t0] σ := by
  have h := hm.bd
  unfold fX6_of_117 at hf
  obtain ⟨rfl, rfl⟩ := Prod.mk.inj (Option.some.inj hf)
  exact hm.iret (by decide +kernel)
def fX6_of (x1 : Int32) (x2 : Int32) (σ : ST) : Option (Int32 × ST) :=
  if x1 < 0 then
    fX6_of_21 (setI σ 36 23 0)
  else
    bR (fX6_in x2.toInt64 0 5 (setI σ 36 23 0)) fun a1 =>
    if a1 = 0 then
      fX6_of_21 (setI σ 36 23 0)
    else
      if x1 < ((setI σ 36 23 0).1 36 16) then
        if x2 = 0 then
          gd (inb x1 (alen 48)) <|
          some ((setI σ 36 23 0).1 48 x1.toNatClampNeg, setI σ 36 23 0)
        else
          if x2 = 1 then
            gd (inb x1 (alen 49)) <|
            some ((setI σ 36 23 0).1 49 x1.toNatClampNeg, setI σ 36 23 0)
          else
            if x2 = 2 then
              gd (inb x1 (alen 50)) <|
              some ((setI σ 36 23 0).1 50 x1.toNatClampNeg, setI σ 36 23 0)
            else
              if x2 = 3 then
                gd (inb x1 (alen 51)) <|
                some ((setI σ 36 23 0).1 51 x1.toNatClampNeg, setI σ 36 23 0)
              else
                if x2 = 4 then
                  gd (inb x1 (alen 52)) <|
                  some ((setI σ 36 23 0).1 52 x1.toNatClampNeg, setI σ 36 23 0)
                else
                  gd (inb x1 (alen 53)) <|
                  if ((setI σ 36 23 0).1 53 x1.toNatClampNeg) = 0 then
                    fX6_of_117 0 (setI σ 36 23 0)
                  else
                    fX6_of_117 1 (setI σ 36 23 0)
      else
        some ((-4), setI σ 36 23 0)
set_option maxHeartbeats 4000000 in
theorem kmX6_of (l : Launch) {x1 : Int32} {x2 : Int32} {σ : ST} {r : Int32} {τ : ST} (hf : fX6_of x1 x2 σ = some (r, τ)) : KM l yX6_of cX6_of 3 (some .int) 1 25 [.ref 36, .int x1, .int x2] σ (some (.int r)) τ := by
  refine KM.intro (ow := 6) (by decide +kernel) rfl (Nat.le_of_ble_eq_true rfl) (fun V hm => ?_)
  show V 0 [some (.ref 36), some (.int x1), some (.int x2)] [] σ
  have h := hm.bd
  unfold fX6_of at hf
  refine h.run (o := [kd 36 = 6]) (ls' := [some (.ref 36), some (.int x1), some (.int x2)]) (st' := [.int x1]) (σ' := setI σ 36 23 0) [(.aload_n 0, 1, 0, 0, 0, 0), (.iconst 0, 1, 0, 0, 0, 0), (.putfield 112, 3, 0, 0, 6, 23), (.iload_n 1, 1, 0, 0, 0, 0)] (pc2 := 6) (by decide +kernel) rfl (And.intro kd_36 trivial) ?_
  refine h.if_lt (tgt := 21) (show decode cX6_of 6 = .ok (.ifCond .lt 15, 3) by decide +kernel) (by decide) (fun c16 => ?_) (fun c16 => ?_)
  · rw [if_pos c16] at hf
    refine h.drop (ls' := [none, none, none]) trivial ?_
    exact wX6_of_21 hm hf
  · rw [if_neg c16] at hf
    show V 9 [some (.ref 36), some (.int x1), some (.int x2)] [] (setI σ 36 23 0)
    refine h.run (o := []) (ls' := [some (.ref 36), some (.int x1), some (.int x2)]) (st' := [.long 5, .long 0, .long x2.toInt64]) (σ' := setI σ 36 23 0) [(.iload_n 2, 1, 0, 0, 0, 0), (.i2l, 1, 0, 0, 0, 0), (.lconst 0, 1, 0, 0, 0, 0), (.ldc2_w 169, 3, 0, 5, 0, 0)] (pc2 := 15) (by decide +kernel) rfl trivial ?_
    obtain ⟨a1, e1, hf⟩ := bR_some hf
    refine h.callS (as := [.long x2.toInt64, .long 0, .long 5]) (rest := []) (by decide +kernel) lk6_119 cwX6_in (kmX6_in l e1) rfl (Nat.le_of_ble_eq_true rfl) (Nat.le_of_ble_eq_true rfl) (Nat.le_of_ble_eq_true rfl) ?_
    show V 18 [some (.ref 36), some (.int x1), some (.int x2)] [.int a1] (setI σ 36 23 0)
    refine h.if_ne (tgt := 23) (show decode cX6_of 18 = .ok (.ifCond .ne 5, 3) by decide +kernel) (by decide) (fun c15 => ?_) (fun c15 => ?_)
    · rw [if_neg c15] at hf
      refine h.run (o := [kd 36 = 6]) (ls' := [some (.ref 36), some (.int x1), some (.int x2)]) (st' := [.int ((setI σ 36 23 0).1 36 16), .int x1]) (σ' := setI σ 36 23 0) [(.iload_n 1, 1, 0, 0, 0, 0), (.aload_n 0, 1, 0, 0, 0, 0), (.getfield 166, 3, 0, 0, 6, 16)] (pc2 := 28) (by decide +kernel) rfl (And.intro kd_36 trivial) ?_
      refine h.icmp_lt (tgt := 34) (show decode cX6_of 28 = .ok (.if_icmp .lt 6, 3) by decide +kernel) (by decide) (fun c14 => ?_) (fun c14 => ?_)
      · rw [if_pos c14] at hf
        refine h.run (o := []) (ls' := [some (.ref 36), some (.int x1), some (.int x2)]) (st' := [.int x2]) (σ' := setI σ 36 23 0) [(.iload_n 2, 1, 0, 0, 0, 0)] (pc2 := 35) (by decide +kernel) rfl trivial ?_
        by_cases c3 : x2 = 0
        · rw [if_pos c3] at hf
          refine h.tableIn (off := 33) (tgt := 68) (show decode cX6_of 35 = .ok (.tableswitch 68 0 4 #[33, 40, 47, 54, 61], 33) by decide +kernel) (by rw [c3]; decide) (by rw [c3]; decide) (by rw [c3]; decide) (by decide) ?_
          obtain ⟨g2, hf⟩ := gd_some hf
          refine h.run (o := [kd 36 = 6, kd 48 = 10, inb x1 (alen 48) = true]) (ls' := [some (.ref 36), some (.int x1), some (.int x2)]) (st' := [.int ((setI σ 36 23 0).1 48 x1.toNatClampNeg)]) (σ' := setI σ 36 23 0) [(.aload_n 0, 1, 0, 0, 0, 0), (.getfield 53, 3, 0, 0, 6, 17), (.iload_n 1, 1, 0, 0, 0, 0), (.iaload, 1, 0, 0, 0, 0)] (pc2 := 74) (by decide +kernel) rfl (And.intro kd_36 (And.intro kd_48 (And.intro g2 trivial))) ?_
          obtain ⟨rfl, rfl⟩ := Prod.mk.inj (Option.some.inj hf)
          exact hm.iret (by decide +kernel)
        · rw [if_neg c3] at hf
          by_cases c5 : x2 = 1
          · rw [if_pos c5] at hf
            refine h.tableIn (off := 40) (tgt := 75) (show decode cX6_of 35 = .ok (.tableswitch 68 0 4 #[33, 40, 47, 54, 61], 33) by decide +kernel) (by rw [c5]; decide) (by rw [c5]; decide) (by rw [c5]; decide) (by decide) ?_
            obtain ⟨g4, hf⟩ := gd_some hf
            refine h.run (o := [kd 36 = 6, kd 49 = 10, inb x1 (alen 49) = true]) (ls' := [some (.ref 36), some (.int x1), some (.int x2)]) (st' := [.int ((setI σ 36 23 0).1 49 x1.toNatClampNeg)]) (σ' := setI σ 36 23 0) [(.aload_n 0, 1, 0, 0, 0, 0), (.getfield 56, 3, 0, 0, 6, 18), (.iload_n 1, 1, 0, 0, 0, 0), (.iaload, 1, 0, 0, 0, 0)] (pc2 := 81) (by decide +kernel) rfl (And.intro kd_36 (And.intro kd_49 (And.intro g4 trivial))) ?_
            obtain ⟨rfl, rfl⟩ := Prod.mk.inj (Option.some.inj hf)
            exact hm.iret (by decide +kernel)
          · rw [if_neg c5] at hf
            by_cases c7 : x2 = 2
            · rw [if_pos c7] at hf
              refine h.tableIn (off := 47) (tgt := 82) (show decode cX6_of 35 = .ok (.tableswitch 68 0 4 #[33, 40, 47, 54, 61], 33) by decide +kernel) (by rw [c7]; decide) (by rw [c7]; decide) (by rw [c7]; decide) (by decide) ?_
              obtain ⟨g6, hf⟩ := gd_some hf
              refine h.run (o := [kd 36 = 6, kd 50 = 10, inb x1 (alen 50) = true]) (ls' := [some (.ref 36), some (.int x1), some (.int x2)]) (st' := [.int ((setI σ 36 23 0).1 50 x1.toNatClampNeg)]) (σ' := setI σ 36 23 0) [(.aload_n 0, 1, 0, 0, 0, 0), (.getfield 59, 3, 0, 0, 6, 19), (.iload_n 1, 1, 0, 0, 0, 0), (.iaload, 1, 0, 0, 0, 0)] (pc2 := 88) (by decide +kernel) rfl (And.intro kd_36 (And.intro kd_50 (And.intro g6 trivial))) ?_
              obtain ⟨rfl, rfl⟩ := Prod.mk.inj (Option.some.inj hf)
              exact hm.iret (by decide +kernel)
            · rw [if_neg c7] at hf
              by_cases c9 : x2 = 3
              · rw [if_pos c9] at hf
                refine h.tableIn (off := 54) (tgt := 89) (show decode cX6_of 35 = .ok (.tableswitch 68 0 4 #[33, 40, 47, 54, 61], 33) by decide +kernel) (by rw [c9]; decide) (by rw [c9]; decide) (by rw [c9]; decide) (by decide) ?_
                obtain ⟨g8, hf⟩ := gd_some hf
                refine h.run (o := [kd 36 = 6, kd 51 = 10, inb x1 (alen 51) = true]) (ls' := [some (.ref 36), some (.int x1), some (.int x2)]) (st' := [.int ((setI σ 36 23 0).1 51 x1.toNatClampNeg)]) (σ' := setI σ 36 23 0) [(.aload_n 0, 1, 0, 0, 0, 0), (.getfield 62, 3, 0, 0, 6, 20), (.iload_n 1, 1, 0, 0, 0, 0), (.iaload, 1, 0, 0, 0, 0)] (pc2 := 95) (by decide +kernel) rfl (And.intro kd_36 (And.intro kd_51 (And.intro g8 trivial))) ?_
                obtain ⟨rfl, rfl⟩ := Prod.mk.inj (Option.some.inj hf)
                exact hm.iret (by decide +kernel)
              · rw [if_neg c9] at hf
                by_cases c11 : x2 = 4
                · rw [if_pos c11] at hf
                  refine h.tableIn (off := 61) (tgt := 96) (show decode cX6_of 35 = .ok (.tableswitch 68 0 4 #[33, 40, 47, 54, 61], 33) by decide +kernel) (by rw [c11]; decide) (by rw [c11]; decide) (by rw [c11]; decide) (by decide) ?_
                  obtain ⟨g10, hf⟩ := gd_some hf
                  refine h.run (o := [kd 36 = 6, kd 52 = 10, inb x1 (alen 52) = true]) (ls' := [some (.ref 36), some (.int x1), some (.int x2)]) (st' := [.int ((setI σ 36 23 0).1 52 x1.toNatClampNeg)]) (σ' := setI σ 36 23 0) [(.aload_n 0, 1, 0, 0, 0, 0), (.getfield 65, 3, 0, 0, 6, 21), (.iload_n 1, 1, 0, 0, 0, 0), (.iaload, 1, 0, 0, 0, 0)] (pc2 := 102) (by decide +kernel) rfl (And.intro kd_36 (And.intro kd_52 (And.intro g10 trivial))) ?_
                  obtain ⟨rfl, rfl⟩ := Prod.mk.inj (Option.some.inj hf)
                  exact hm.iret (by decide +kernel)
                · rw [if_neg c11] at hf
                  refine h.tableOut (tgt := 103) (show decode cX6_of 35 = .ok (.tableswitch 68 0 4 #[33, 40, 47, 54, 61], 33) by decide +kernel) (sw_out (fun i hl hh => ?_)) (by decide) ?_
                  · rcases (show i = 0 ∨ i = 1 ∨ i = 2 ∨ i = 3 ∨ i = 4 by omega) with rfl | rfl | rfl | rfl | rfl
                    · exact sw_ne c3 (by decide)
                    · exact sw_ne c5 (by decide)
                    · exact sw_ne c7 (by decide)
                    · exact sw_ne c9 (by decide)
                    · exact sw_ne c11 (by decide)
                  · obtain ⟨g12, hf⟩ := gd_some hf
                    refine h.run (o := [kd 36 = 6, kd 53 = 11, inb x1 (alen 53) = true]) (ls' := [some (.ref 36), some (.int x1), some (.int x2)]) (st' := [.int ((setI σ 36 23 0).1 53 x1.toNatClampNeg)]) (σ' := setI σ 36 23 0) [(.aload_n 0, 1, 0, 0, 0, 0), (.getfield 68, 3, 0, 0, 6, 22), (.iload_n 1, 1, 0, 0, 0, 0), (.baload, 1, 0, 0, 0, 0)] (pc2 := 109) (by decide +kernel) rfl (And.intro kd_36 (And.intro kd_53 (And.intro g12 trivial))) ?_
                    refine h.if_eq (tgt := 116) (show decode cX6_of 109 = .ok (.ifCond .eq 7, 3) by decide +kernel) (by decide) (fun c13 => ?_) (fun c13 => ?_)
                    · rw [if_pos c13] at hf
                      refine h.run (o := []) (ls' := [some (.ref 36), some (.int x1), some (.int x2)]) (st' := [.int 0]) (σ' := setI σ 36 23 0) [(.iconst 0, 1, 0, 0, 0, 0)] (pc2 := 117) (by decide +kernel) rfl trivial ?_
                      refine h.drop (ls' := [none, none, none]) trivial ?_
                      exact wX6_of_117 hm hf
                    · rw [if_neg c13] at hf
                      show V 112 [some (.ref 36), some (.int x1), some (.int x2)] [] (setI σ 36 23 0)
                      refine h.run (o := []) (ls' := [some (.ref 36), some (.int x1), some (.int x2)]) (st' := [.int 1]) (σ' := setI σ 36 23 0) [(.iconst 1, 1, 1, 0, 0, 0), (.goto 4, 3, 0, 0, 0, 117)] (pc2 := 117) (by decide +kernel) rfl trivial ?_
                      refine h.drop (ls' := [none, none, none]) trivial ?_
                      exact wX6_of_117 hm hf
      · rw [if_neg c14] at hf
        show V 31 [some (.ref 36), some (.int x1), some (.int x2)] [] (setI σ 36 23 0)
        refine h.run (o := []) (ls' := [some (.ref 36), some (.int x1), some (.int x2)]) (st' := [.int (-4)]) (σ' := setI σ 36 23 0) [(.bipush (-4), 2, (-4), 0, 0, 0)] (pc2 := 33) (by decide +kernel) rfl trivial ?_
        obtain ⟨rfl, rfl⟩ := Prod.mk.inj (Option.some.inj hf)
        exact hm.iret (by decide +kernel)
    · rw [if_pos c15] at hf
      show V 21 [some (.ref 36), some (.int x1), some (.int x2)] [] (setI σ 36 23 0)
      refine h.drop (ls' := [none, none, none]) trivial ?_
      exact wX6_of_21 hm hf
def fX6_sumSent_25 (σ : ST) : Option (Int32 × ST) :=
  some ((-1), σ)
set_option maxHeartbeats 4000000 in
theorem wX6_sumSent_25 {l : Launch} {V : Nat → List (Option Value) → List Value → ST → Prop} {r : Int32} {τ : ST} {σ : ST} (hm : BM l 6 cX6_sumSent 6 (some .int) 2 46 (some (.int r)) τ V) (hf : fX6_sumSent_25 σ = some (r, τ)) : V 25 [none, none, none, none, none, none] [] σ := by
  have h := hm.bd
  unfold fX6_sumSent_25 at hf
  refine h.run (o := []) (ls' := [none, none, none, none, none, none]) (st' := [.int (-1)]) (σ' := σ) [(.iconst (-1), 1, (-1), 0, 0, 0)] (pc2 := 26) (by decide +kernel) rfl trivial ?_
  obtain ⟨rfl, rfl⟩ := Prod.mk.inj (Option.some.inj hf)
  exact hm.iret (by decide +kernel)
def fX6_sumSent_110 (kt_32 : Int32 → Int32 → Int32 → Int32 → ST → Option (Int32 × ST)) (x1 : Int32) (x2 : Int32) (x4 : Int32) (t0 : Int32) (t1 : Int32) (σ : ST) : Option (Int32 × ST) :=
  kt_32 x1 x2 (t0 + t1) (x4 + 1) σ
set_option maxHeartbeats 4000000 in
theorem wX6_sumSent_110 {l : Launch} {V : Nat → List (Option Value) → List Value → ST → Prop} {r : Int32} {τ : ST} {σ : ST} {x1 : Int32} {x2 : Int32} {x4 : Int32} {t0 : Int32} {t1 : Int32} {kt_32 : Int32 → Int32 → Int32 → Int32 → ST → Option (Int32 × ST)} (hm : BM l 6 cX6_sumSent 6 (some .int) 2 46 (some (.int r)) τ V) (hkt_32 : ∀ (x1 : Int32) (x2 : Int32) (x3 : Int32) (x4 : Int32) (σ : ST), kt_32 x1 x2 x3 x4 σ = some (r, τ) → V 32 [some (.ref 36), some (.int x1), some (.int x2), some (.int x3), some (.int x4), none] [] σ) (hf : fX6_sumSent_110 kt_32 x1 x2 x4 t0 t1 σ = some (r, τ)) : V 110 [some (.ref 36), some (.int x1), some (.int x2), none, some (.int x4), none] [.int t1, .int t0] σ := by
  have h := hm.bd
  unfold fX6_sumSent_110 at hf
  refine h.run (o := []) (ls' := [some (.ref 36), some (.int x1), some (.int x2), some (.int (t0 + t1)), some (.int (x4 + 1)), none]) (st' := []) (σ' := σ) [(.iadd, 1, 0, 0, 0, 0), (.istore_n 3, 1, 0, 0, 0, 0), (.iinc 4 1, 3, 1, 0, 0, 0), (.goto (-83), 3, 0, 0, 0, 32)] (pc2 := 32) (by decide +kernel) rfl trivial ?_
  exact hkt_32 x1 x2 (t0 + t1) (x4 + 1) _ hf
def fX6_sumSent_90 (kt_32 : Int32 → Int32 → Int32 → Int32 → ST → Option (Int32 × ST)) (x1 : Int32) (x2 : Int32) (x3 : Int32) (x4 : Int32) (t0 : Int32) (σ : ST) : Option (Int32 × ST) :=
  gd (inb x4 (alen 48)) <|
  if (σ.1 48 x4.toNatClampNeg) = x1 then
    fX6_sumSent_110 kt_32 x1 x2 x4 x3 t0 σ
  else
    fX6_sumSent_110 kt_32 x1 x2 x4 x3 0 σ
set_option maxHeartbeats 4000000 in
theorem wX6_sumSent_90 {l : Launch} {V : Nat → List (Option Value) → List Value → ST → Prop} {r : Int32} {τ : ST} {σ : ST} {x1 : Int32} {x2 : Int32} {x3 : Int32} {x4 : Int32} {t0 : Int32} {kt_32 : Int32 → Int32 → Int32 → Int32 → ST → Option (Int32 × ST)} (hm : BM l 6 cX6_sumSent 6 (some .int) 2 46 (some (.int r)) τ V) (hkt_32 : ∀ (x1 : Int32) (x2 : Int32) (x3 : Int32) (x4 : Int32) (σ : ST), kt_32 x1 x2 x3 x4 σ = some (r, τ) → V 32 [some (.ref 36), some (.int x1), some (.int x2), some (.int x3), some (.int x4), none] [] σ) (hf : fX6_sumSent_90 kt_32 x1 x2 x3 x4 t0 σ = some (r, τ)) : V 90 [some (.ref 36), some (.int x1), some (.int x2), some (.int x3), some (.int x4), none] [.int t0] σ := by
  have h := hm.bd
  unfold fX6_sumSent_90 at hf
  obtain ⟨g1, hf⟩ := gd_some hf
  refine h.run (o := [kd 36 = 6, kd 48 = 10, inb x4 (alen 48) = true]) (ls' := [some (.ref 36), some (.int x1), some (.int x2), some (.int x3), some (.int x4), some (.int t0)]) (st' := [.int x1, .int (σ.1 48 x4.toNatClampNeg), .int x3]) (σ' := σ) [(.istore 5, 2, 0, 0, 0, 0), (.iload_n 3, 1, 0, 0, 0, 0), (.aload_n 0, 1, 0, 0, 0, 0), (.getfield 53, 3, 0, 0, 6, 17), (.iload 4, 2, 0, 0, 0, 0), (.iaload, 1, 0, 0, 0, 0), (.iload_n 1, 1, 0, 0, 0, 0)] (pc2 := 101) (by decide +kernel) rfl (And.intro kd_36 (And.intro kd_48 (And.intro g1 trivial))) ?_
  refine h.icmp_ne (tgt := 109) (show decode cX6_sumSent 101 = .ok (.if_icmp .ne 8, 3) by decide +kernel) (by decide) (fun c2 => ?_) (fun c2 => ?_)
  · rw [if_neg c2] at hf
    refine h.run (o := []) (ls' := [some (.ref 36), some (.int x1), some (.int x2), some (.int x3), some (.int x4), some (.int t0)]) (st' := [.int 0, .int x3]) (σ' := σ) [(.iconst 0, 1, 0, 0, 0, 0)] (pc2 := 110) (by decide +kernel) rfl trivial ?_
    refine h.drop (ls' := [some (.ref 36), some (.int x1), some (.int x2), none, some (.int x4), none]) (And.intro rfl (And.intro rfl (And.intro rfl (And.intro rfl trivial)))) ?_
    exact wX6_sumSent_110 hm hkt_32 hf
  · rw [if_pos c2] at hf
    show V 104 [some (.ref 36), some (.int x1), some (.int x2), some (.int x3), some (.int x4), some (.int t0)] [.int x3] σ
    refine h.run (o := []) (ls' := [some (.ref 36), some (.int x1), some (.int x2), some (.int x3), some (.int x4), some (.int t0)]) (st' := [.int t0, .int x3]) (σ' := σ) [(.iload 5, 2, 0, 0, 0, 0), (.goto 4, 3, 0, 0, 0, 110)] (pc2 := 110) (by decide +kernel) rfl trivial ?_
    refine h.drop (ls' := [some (.ref 36), some (.int x1), some (.int x2), none, some (.int x4), none]) (And.intro rfl (And.intro rfl (And.intro rfl (And.intro rfl trivial)))) ?_
    exact wX6_sumSent_110 hm hkt_32 hf
def fX6_sumSent_32 (n : Nat) (x1 : Int32) (x2 : Int32) (x3 : Int32) (x4 : Int32) (σ : ST) : Option (Int32 × ST) := match n with
  | 0 => none
  | n + 1 =>
    if (σ.1 36 16) ≤ x4 then
      some (x3, σ)
    else
      if x2 = 0 then
        gd (inb x4 (alen 50)) <|
        fX6_sumSent_90 (fX6_sumSent_32 n) x1 x2 x3 x4 (σ.1 50 x4.toNatClampNeg) σ
      else
        if x2 = 1 then
          gd (inb x4 (alen 52)) <|
          fX6_sumSent_90 (fX6_sumSent_32 n) x1 x2 x3 x4 (σ.1 52 x4.toNatClampNeg) σ
        else
          gd (inb x4 (alen 50)) <|
          gd (inb x4 (alen 52)) <|
          fX6_sumSent_90 (fX6_sumSent_32 n) x1 x2 x3 x4 (((σ.1 36 0) - (σ.1 50 x4.toNatClampNeg)) + (σ.1 52 x4.toNatClampNeg)) σ
set_option maxHeartbeats 4000000 in
theorem wX6_sumSent_32 {l : Launch} {V : Nat → List (Option Value) → List Value → ST → Prop} {r : Int32} {τ : ST} (hm : BM l 6 cX6_sumSent 6 (some .int) 2 46 (some (.int r)) τ V) : ∀ (n : Nat) (x1 : Int32) (x2 : Int32) (x3 : Int32) (x4 : Int32) (σ : ST), fX6_sumSent_32 n x1 x2 x3 x4 σ = some (r, τ) → V 32 [some (.ref 36), some (.int x1), some (.int x2), some (.int x3), some (.int x4), none] [] σ := by
  have h := hm.bd
  intro n
  induction n with
  | zero => intro x1 x2 x3 x4 σ hf; cases hf
  | succ n ih =>
    intro x1 x2 x3 x4 σ hf
    rw [fX6_sumSent_32] at hf
    refine h.run (o := [kd 36 = 6]) (ls' := [some (.ref 36), some (.int x1), some (.int x2), some (.int x3), some (.int x4), none]) (st' := [.int (σ.1 36 16), .int x4]) (σ' := σ) [(.iload 4, 2, 0, 0, 0, 0), (.aload_n 0, 1, 0, 0, 0, 0), (.getfield 166, 3, 0, 0, 6, 16)] (pc2 := 38) (by decide +kernel) rfl (And.intro kd_36 trivial) ?_
    refine h.icmp_ge (tgt := 118) (show decode cX6_sumSent 38 = .ok (.if_icmp .ge 80, 3) by decide +kernel) (by decide) (fun c7 => ?_) (fun c7 => ?_)
    · rw [if_pos c7] at hf
      refine h.run (o := []) (ls' := [some (.ref 36), some (.int x1), some (.int x2), some (.int x3), some (.int x4), none]) (st' := [.int x3]) (σ' := σ) [(.iload_n 3, 1, 0, 0, 0, 0)] (pc2 := 119) (by decide +kernel) rfl trivial ?_
      obtain ⟨rfl, rfl⟩ := Prod.mk.inj (Option.some.inj hf)
      exact hm.iret (by decide +kernel)
    · rw [if_neg c7] at hf
      show V 41 [some (.ref 36), some (.int x1), some (.int x2), some (.int x3), some (.int x4), none] [] σ
      refine h.run (o := []) (ls' := [some (.ref 36), some (.int x1), some (.int x2), some (.int x3), some (.int x4), none]) (st' := [.int x2]) (σ' := σ) [(.iload_n 2, 1, 0, 0, 0, 0)] (pc2 := 42) (by decide +kernel) rfl trivial ?_
      refine h.if_ne (tgt := 55) (show decode cX6_sumSent 42 = .ok (.ifCond .ne 13, 3) by decide +kernel) (by decide) (fun c6 => ?_) (fun c6 => ?_)
      · rw [if_neg c6] at hf
        refine h.run (o := []) (ls' := [some (.ref 36), some (.int x1), some (.int x2), some (.int x3), some (.int x4), none]) (st' := [.int 1, .int x2]) (σ' := σ) [(.iload_n 2, 1, 0, 0, 0, 0), (.iconst 1, 1, 1, 0, 0, 0)] (pc2 := 57) (by decide +kernel) rfl trivial ?_
        refine h.icmp_ne (tgt := 70) (show decode cX6_sumSent 57 = .ok (.if_icmp .ne 13, 3) by decide +kernel) (by decide) (fun c4 => ?_) (fun c4 => ?_)
        · rw [if_neg c4] at hf
          obtain ⟨g1, hf⟩ := gd_some hf
          obtain ⟨g2, hf⟩ := gd_some hf
          refine h.run (o := [kd 36 = 6, kd 36 = 6, kd 50 = 10, inb x4 (alen 50) = true, kd 36 = 6, kd 52 = 10, inb x4 (alen 52) = true]) (ls' := [some (.ref 36), some (.int x1), some (.int x2), some (.int x3), some (.int x4), none]) (st' := [.int (((σ.1 36 0) - (σ.1 50 x4.toNatClampNeg)) + (σ.1 52 x4.toNatClampNeg))]) (σ' := σ) [(.aload_n 0, 1, 0, 0, 0, 0), (.getfield 7, 3, 0, 0, 6, 0), (.aload_n 0, 1, 0, 0, 0, 0), (.getfield 59, 3, 0, 0, 6, 19), (.iload 4, 2, 0, 0, 0, 0), (.iaload, 1, 0, 0, 0, 0), (.isub, 1, 0, 0, 0, 0), (.aload_n 0, 1, 0, 0, 0, 0), (.getfield 65, 3, 0, 0, 6, 21), (.iload 4, 2, 0, 0, 0, 0), (.iaload, 1, 0, 0, 0, 0), (.iadd, 1, 0, 0, 0, 0)] (pc2 := 90) (by decide +kernel) rfl (And.intro kd_36 (And.intro kd_36 (And.intro kd_50 (And.intro g1 (And.intro kd_36 (And.intro kd_52 (And.intro g2 trivial))))))) ?_
          exact wX6_sumSent_90 hm ih hf
        · rw [if_pos c4] at hf
          show V 60 [some (.ref 36), some (.int x1), some (.int x2), some (.int x3), some (.int x4), none] [] σ
          obtain ⟨g3, hf⟩ := gd_some hf
          refine h.run (o := [kd 36 = 6, kd 52 = 10, inb x4 (alen 52) = true]) (ls' := [some (.ref 36), some (.int x1), some (.int x2), some (.int x3), some (.int x4), none]) (st' := [.int (σ.1 52 x4.toNatClampNeg)]) (σ' := σ) [(.aload_n 0, 1, 0, 0, 0, 0), (.getfield 65, 3, 0, 0, 6, 21), (.iload 4, 2, 0, 0, 0, 0), (.iaload, 1, 0, 0, 0, 0), (.goto 23, 3, 0, 0, 0, 90)] (pc2 := 90) (by decide +kernel) rfl (And.intro kd_36 (And.intro kd_52 (And.intro g3 trivial))) ?_
          exact wX6_sumSent_90 hm ih hf
      · rw [if_pos c6] at hf
        show V 45 [some (.ref 36), some (.int x1), some (.int x2), some (.int x3), some (.int x4), none] [] σ
        obtain ⟨g5, hf⟩ := gd_some hf
        refine h.run (o := [kd 36 = 6, kd 50 = 10, inb x4 (alen 50) = true]) (ls' := [some (.ref 36), some (.int x1), some (.int x2), some (.int x3), some (.int x4), none]) (st' := [.int (σ.1 50 x4.toNatClampNeg)]) (σ' := σ) [(.aload_n 0, 1, 0, 0, 0, 0), (.getfield 59, 3, 0, 0, 6, 19), (.iload 4, 2, 0, 0, 0, 0), (.iaload, 1, 0, 0, 0, 0), (.goto 38, 3, 0, 0, 0, 90)] (pc2 := 90) (by decide +kernel) rfl (And.intro kd_36 (And.intro kd_50 (And.intro g5 trivial))) ?_
        exact wX6_sumSent_90 hm ih hf
def fX6_sumSent (x1 : Int32) (x2 : Int32) (σ : ST) : Option (Int32 × ST) :=
  bR (fX6_isSender x1 (setI σ 36 23 0)) fun a1 =>
  if a1 = 0 then
    fX6_sumSent_25 (setI σ 36 23 0)
  else
    bR (fX6_in x2.toInt64 0 2 (setI σ 36 23 0)) fun a2 =>
    if a2 = 0 then
      fX6_sumSent_25 (setI σ 36 23 0)
    else
      fX6_sumSent_32 FU x1 x2 0 0 (setI σ 36 23 0)
set_option maxHeartbeats 4000000 in
theorem kmX6_sumSent (l : Launch) {x1 : Int32} {x2 : Int32} {σ : ST} {r : Int32} {τ : ST} (hf : fX6_sumSent x1 x2 σ = some (r, τ)) : KM l yX6_sumSent cX6_sumSent 6 (some .int) 2 46 [.ref 36, .int x1, .int x2] σ (some (.int r)) τ := by
  refine KM.intro (ow := 6) (by decide +kernel) rfl (Nat.le_of_ble_eq_true rfl) (fun V hm => ?_)
  show V 0 [some (.ref 36), some (.int x1), some (.int x2), none, none, none] [] σ
  have h := hm.bd
  unfold fX6_sumSent at hf
  refine h.run (o := [kd 36 = 6]) (ls' := [some (.ref 36), some (.int x1), some (.int x2), none, none, none]) (st' := [.int x1, .ref 36]) (σ' := setI σ 36 23 0) [(.aload_n 0, 1, 0, 0, 0, 0), (.iconst 0, 1, 0, 0, 0, 0), (.putfield 112, 3, 0, 0, 6, 23), (.aload_n 0, 1, 0, 0, 0, 0), (.iload_n 1, 1, 0, 0, 0, 0)] (pc2 := 7) (by decide +kernel) rfl (And.intro kd_36 trivial) ?_
  obtain ⟨a1, e1, hf⟩ := bR_some hf
  refine h.callV (as := [.int x1]) (rest := []) (by decide +kernel) lk6_183 cwX6_isSender kd_36 (kmX6_isSender l e1) rfl (Nat.le_of_ble_eq_true rfl) (Nat.le_of_ble_eq_true rfl) (Nat.le_of_ble_eq_true rfl) ?_
  show V 10 [some (.ref 36), some (.int x1), some (.int x2), none, none, none] [.int a1] (setI σ 36 23 0)
  refine h.if_eq (tgt := 25) (show decode cX6_sumSent 10 = .ok (.ifCond .eq 15, 3) by decide +kernel) (by decide) (fun c4 => ?_) (fun c4 => ?_)
  · rw [if_pos c4] at hf
    refine h.drop (ls' := [none, none, none, none, none, none]) trivial ?_
    exact wX6_sumSent_25 hm hf
  · rw [if_neg c4] at hf
    show V 13 [some (.ref 36), some (.int x1), some (.int x2), none, none, none] [] (setI σ 36 23 0)
    refine h.run (o := []) (ls' := [some (.ref 36), some (.int x1), some (.int x2), none, none, none]) (st' := [.long 2, .long 0, .long x2.toInt64]) (σ' := setI σ 36 23 0) [(.iload_n 2, 1, 0, 0, 0, 0), (.i2l, 1, 0, 0, 0, 0), (.lconst 0, 1, 0, 0, 0, 0), (.ldc2_w 186, 3, 0, 2, 0, 0)] (pc2 := 19) (by decide +kernel) rfl trivial ?_
    obtain ⟨a2, e2, hf⟩ := bR_some hf
    refine h.callS (as := [.long x2.toInt64, .long 0, .long 2]) (rest := []) (by decide +kernel) lk6_119 cwX6_in (kmX6_in l e2) rfl (Nat.le_of_ble_eq_true rfl) (Nat.le_of_ble_eq_true rfl) (Nat.le_of_ble_eq_true rfl) ?_
    show V 22 [some (.ref 36), some (.int x1), some (.int x2), none, none, none] [.int a2] (setI σ 36 23 0)
    refine h.if_ne (tgt := 27) (show decode cX6_sumSent 22 = .ok (.ifCond .ne 5, 3) by decide +kernel) (by decide) (fun c3 => ?_) (fun c3 => ?_)
    · rw [if_neg c3] at hf
      refine h.run (o := []) (ls' := [some (.ref 36), some (.int x1), some (.int x2), some (.int 0), some (.int 0), none]) (st' := []) (σ' := setI σ 36 23 0) [(.iconst 0, 1, 0, 0, 0, 0), (.istore_n 3, 1, 0, 0, 0, 0), (.iconst 0, 1, 0, 0, 0, 0), (.istore 4, 2, 0, 0, 0, 0)] (pc2 := 32) (by decide +kernel) rfl trivial ?_
      exact wX6_sumSent_32 hm FU x1 x2 0 0 _ hf
    · rw [if_pos c3] at hf
      show V 25 [some (.ref 36), some (.int x1), some (.int x2), none, none, none] [] (setI σ 36 23 0)
      refine h.drop (ls' := [none, none, none, none, none, none]) trivial ?_
      exact wX6_sumSent_25 hm hf
def fX6_sumCame_25 (σ : ST) : Option (Int32 × ST) :=
  some ((-1), σ)
set_option maxHeartbeats 4000000 in
theorem wX6_sumCame_25 {l : Launch} {V : Nat → List (Option Value) → List Value → ST → Prop} {r : Int32} {τ : ST} {σ : ST} (hm : BM l 6 cX6_sumCame 6 (some .int) 2 46 (some (.int r)) τ V) (hf : fX6_sumCame_25 σ = some (r, τ)) : V 25 [none, none, none, none, none, none] [] σ := by
  have h := hm.bd
  unfold fX6_sumCame_25 at hf
  refine h.run (o := []) (ls' := [none, none, none, none, none, none]) (st' := [.int (-1)]) (σ' := σ) [(.iconst (-1), 1, (-1), 0, 0, 0)] (pc2 := 26) (by decide +kernel) rfl trivial ?_
  obtain ⟨rfl, rfl⟩ := Prod.mk.inj (Option.some.inj hf)
  exact hm.iret (by decide +kernel)
def fX6_sumCame_105 (kt_32 : Int32 → Int32 → Int32 → Int32 → ST → Option (Int32 × ST)) (x1 : Int32) (x2 : Int32) (x4 : Int32) (t0 : Int32) (t1 : Int32) (σ : ST) : Option (Int32 × ST) :=
  kt_32 x1 x2 (t0 + t1) (x4 + 1) σ
set_option maxHeartbeats 4000000 in
theorem wX6_sumCame_105 {l : Launch} {V : Nat → List (Option Value) → List Value → ST → Prop} {r : Int32} {τ : ST} {σ : ST} {x1 : Int32} {x2 : Int32} {x4 : Int32} {t0 : Int32} {t1 : Int32} {kt_32 : Int32 → Int32 → Int32 → Int32 → ST → Option (Int32 × ST)} (hm : BM l 6 cX6_sumCame 6 (some .int) 2 46 (some (.int r)) τ V) (hkt_32 : ∀ (x1 : Int32) (x2 : Int32) (x3 : Int32) (x4 : Int32) (σ : ST), kt_32 x1 x2 x3 x4 σ = some (r, τ) → V 32 [some (.ref 36), some (.int x1), some (.int x2), some (.int x3), some (.int x4), none] [] σ) (hf : fX6_sumCame_105 kt_32 x1 x2 x4 t0 t1 σ = some (r, τ)) : V 105 [some (.ref 36), some (.int x1), some (.int x2), none, some (.int x4), none] [.int t1, .int t0] σ := by
  have h := hm.bd
  unfold fX6_sumCame_105 at hf
  refine h.run (o := []) (ls' := [some (.ref 36), some (.int x1), some (.int x2), some (.int (t0 + t1)), some (.int (x4 + 1)), none]) (st' := []) (σ' := σ) [(.iadd, 1, 0, 0, 0, 0), (.istore_n 3, 1, 0, 0, 0, 0), (.iinc 4 1, 3, 1, 0, 0, 0), (.goto (-78), 3, 0, 0, 0, 32)] (pc2 := 32) (by decide +kernel) rfl trivial ?_
  exact hkt_32 x1 x2 (t0 + t1) (x4 + 1) _ hf
def fX6_sumCame_85 (kt_32 : Int32 → Int32 → Int32 → Int32 → ST → Option (Int32 × ST)) (x1 : Int32) (x2 : Int32) (x3 : Int32) (x4 : Int32) (t0 : Int32) (σ : ST) : Option (Int32 × ST) :=
  gd (inb x4 (alen 49)) <|
  if (σ.1 49 x4.toNatClampNeg) = x1 then
    fX6_sumCame_105 kt_32 x1 x2 x4 x3 t0 σ
  else
    fX6_sumCame_105 kt_32 x1 x2 x4 x3 0 σ
set_option maxHeartbeats 4000000 in
theorem wX6_sumCame_85 {l : Launch} {V : Nat → List (Option Value) → List Value → ST → Prop} {r : Int32} {τ : ST} {σ : ST} {x1 : Int32} {x2 : Int32} {x3 : Int32} {x4 : Int32} {t0 : Int32} {kt_32 : Int32 → Int32 → Int32 → Int32 → ST → Option (Int32 × ST)} (hm : BM l 6 cX6_sumCame 6 (some .int) 2 46 (some (.int r)) τ V) (hkt_32 : ∀ (x1 : Int32) (x2 : Int32) (x3 : Int32) (x4 : Int32) (σ : ST), kt_32 x1 x2 x3 x4 σ = some (r, τ) → V 32 [some (.ref 36), some (.int x1), some (.int x2), some (.int x3), some (.int x4), none] [] σ) (hf : fX6_sumCame_85 kt_32 x1 x2 x3 x4 t0 σ = some (r, τ)) : V 85 [some (.ref 36), some (.int x1), some (.int x2), some (.int x3), some (.int x4), none] [.int t0] σ := by
  have h := hm.bd
  unfold fX6_sumCame_85 at hf
  obtain ⟨g1, hf⟩ := gd_some hf
  refine h.run (o := [kd 36 = 6, kd 49 = 10, inb x4 (alen 49) = true]) (ls' := [some (.ref 36), some (.int x1), some (.int x2), some (.int x3), some (.int x4), some (.int t0)]) (st' := [.int x1, .int (σ.1 49 x4.toNatClampNeg), .int x3]) (σ' := σ) [(.istore 5, 2, 0, 0, 0, 0), (.iload_n 3, 1, 0, 0, 0, 0), (.aload_n 0, 1, 0, 0, 0, 0), (.getfield 56, 3, 0, 0, 6, 18), (.iload 4, 2, 0, 0, 0, 0), (.iaload, 1, 0, 0, 0, 0), (.iload_n 1, 1, 0, 0, 0, 0)] (pc2 := 96) (by decide +kernel) rfl (And.intro kd_36 (And.intro kd_49 (And.intro g1 trivial))) ?_
  refine h.icmp_ne (tgt := 104) (show decode cX6_sumCame 96 = .ok (.if_icmp .ne 8, 3) by decide +kernel) (by decide) (fun c2 => ?_) (fun c2 => ?_)
  · rw [if_neg c2] at hf
    refine h.run (o := []) (ls' := [some (.ref 36), some (.int x1), some (.int x2), some (.int x3), some (.int x4), some (.int t0)]) (st' := [.int 0, .int x3]) (σ' := σ) [(.iconst 0, 1, 0, 0, 0, 0)] (pc2 := 105) (by decide +kernel) rfl trivial ?_
    refine h.drop (ls' := [some (.ref 36), some (.int x1), some (.int x2), none, some (.int x4), none]) (And.intro rfl (And.intro rfl (And.intro rfl (And.intro rfl trivial)))) ?_
    exact wX6_sumCame_105 hm hkt_32 hf
  · rw [if_pos c2] at hf
    show V 99 [some (.ref 36), some (.int x1), some (.int x2), some (.int x3), some (.int x4), some (.int t0)] [.int x3] σ
    refine h.run (o := []) (ls' := [some (.ref 36), some (.int x1), some (.int x2), some (.int x3), some (.int x4), some (.int t0)]) (st' := [.int t0, .int x3]) (σ' := σ) [(.iload 5, 2, 0, 0, 0, 0), (.goto 4, 3, 0, 0, 0, 105)] (pc2 := 105) (by decide +kernel) rfl trivial ?_
    refine h.drop (ls' := [some (.ref 36), some (.int x1), some (.int x2), none, some (.int x4), none]) (And.intro rfl (And.intro rfl (And.intro rfl (And.intro rfl trivial)))) ?_
    exact wX6_sumCame_105 hm hkt_32 hf
def fX6_sumCame_32 (n : Nat) (x1 : Int32) (x2 : Int32) (x3 : Int32) (x4 : Int32) (σ : ST) : Option (Int32 × ST) := match n with
  | 0 => none
  | n + 1 =>
    if (σ.1 36 16) ≤ x4 then
      some (x3, σ)
    else
      if x2 = 0 then
        gd (inb x4 (alen 51)) <|
        fX6_sumCame_85 (fX6_sumCame_32 n) x1 x2 x3 x4 (σ.1 51 x4.toNatClampNeg) σ
      else
        if x2 = 1 then
          gd (inb x4 (alen 52)) <|
          fX6_sumCame_85 (fX6_sumCame_32 n) x1 x2 x3 x4 (σ.1 52 x4.toNatClampNeg) σ
        else
          gd (inb x4 (alen 51)) <|
          gd (inb x4 (alen 52)) <|
          fX6_sumCame_85 (fX6_sumCame_32 n) x1 x2 x3 x4 ((σ.1 51 x4.toNatClampNeg) - (σ.1 52 x4.toNatClampNeg)) σ
set_option maxHeartbeats 4000000 in
theorem wX6_sumCame_32 {l : Launch} {V : Nat → List (Option Value) → List Value → ST → Prop} {r : Int32} {τ : ST} (hm : BM l 6 cX6_sumCame 6 (some .int) 2 46 (some (.int r)) τ V) : ∀ (n : Nat) (x1 : Int32) (x2 : Int32) (x3 : Int32) (x4 : Int32) (σ : ST), fX6_sumCame_32 n x1 x2 x3 x4 σ = some (r, τ) → V 32 [some (.ref 36), some (.int x1), some (.int x2), some (.int x3), some (.int x4), none] [] σ := by
  have h := hm.bd
  intro n
  induction n with
  | zero => intro x1 x2 x3 x4 σ hf; cases hf
  | succ n ih =>
    intro x1 x2 x3 x4 σ hf
    rw [fX6_sumCame_32] at hf
    refine h.run (o := [kd 36 = 6]) (ls' := [some (.ref 36), some (.int x1), some (.int x2), some (.int x3), some (.int x4), none]) (st' := [.int (σ.1 36 16), .int x4]) (σ' := σ) [(.iload 4, 2, 0, 0, 0, 0), (.aload_n 0, 1, 0, 0, 0, 0), (.getfield 166, 3, 0, 0, 6, 16)] (pc2 := 38) (by decide +kernel) rfl (And.intro kd_36 trivial) ?_
    refine h.icmp_ge (tgt := 113) (show decode cX6_sumCame 38 = .ok (.if_icmp .ge 75, 3) by decide +kernel) (by decide) (fun c7 => ?_) (fun c7 => ?_)
    · rw [if_pos c7] at hf
      refine h.run (o := []) (ls' := [some (.ref 36), some (.int x1), some (.int x2), some (.int x3), some (.int x4), none]) (st' := [.int x3]) (σ' := σ) [(.iload_n 3, 1, 0, 0, 0, 0)] (pc2 := 114) (by decide +kernel) rfl trivial ?_
      obtain ⟨rfl, rfl⟩ := Prod.mk.inj (Option.some.inj hf)
      exact hm.iret (by decide +kernel)
    · rw [if_neg c7] at hf
      show V 41 [some (.ref 36), some (.int x1), some (.int x2), some (.int x3), some (.int x4), none] [] σ
      refine h.run (o := []) (ls' := [some (.ref 36), some (.int x1), some (.int x2), some (.int x3), some (.int x4), none]) (st' := [.int x2]) (σ' := σ) [(.iload_n 2, 1, 0, 0, 0, 0)] (pc2 := 42) (by decide +kernel) rfl trivial ?_
      refine h.if_ne (tgt := 55) (show decode cX6_sumCame 42 = .ok (.ifCond .ne 13, 3) by decide +kernel) (by decide) (fun c6 => ?_) (fun c6 => ?_)
      · rw [if_neg c6] at hf
        refine h.run (o := []) (ls' := [some (.ref 36), some (.int x1), some (.int x2), some (.int x3), some (.int x4), none]) (st' := [.int 1, .int x2]) (σ' := σ) [(.iload_n 2, 1, 0, 0, 0, 0), (.iconst 1, 1, 1, 0, 0, 0)] (pc2 := 57) (by decide +kernel) rfl trivial ?_
        refine h.icmp_ne (tgt := 70) (show decode cX6_sumCame 57 = .ok (.if_icmp .ne 13, 3) by decide +kernel) (by decide) (fun c4 => ?_) (fun c4 => ?_)
        · rw [if_neg c4] at hf
          obtain ⟨g1, hf⟩ := gd_some hf
          obtain ⟨g2, hf⟩ := gd_some hf
          refine h.run (o := [kd 36 = 6, kd 51 = 10, inb x4 (alen 51) = true, kd 36 = 6, kd 52 = 10, inb x4 (alen 52) = true]) (ls' := [some (.ref 36), some (.int x1), some (.int x2), some (.int x3), some (.int x4), none]) (st' := [.int ((σ.1 51 x4.toNatClampNeg) - (σ.1 52 x4.toNatClampNeg))]) (σ' := σ) [(.aload_n 0, 1, 0, 0, 0, 0), (.getfield 62, 3, 0, 0, 6, 20), (.iload 4, 2, 0, 0, 0, 0), (.iaload, 1, 0, 0, 0, 0), (.aload_n 0, 1, 0, 0, 0, 0), (.getfield 65, 3, 0, 0, 6, 21), (.iload 4, 2, 0, 0, 0, 0), (.iaload, 1, 0, 0, 0, 0), (.isub, 1, 0, 0, 0, 0)] (pc2 := 85) (by decide +kernel) rfl (And.intro kd_36 (And.intro kd_51 (And.intro g1 (And.intro kd_36 (And.intro kd_52 (And.intro g2 trivial)))))) ?_
          exact wX6_sumCame_85 hm ih hf
        · rw [if_pos c4] at hf
          show V 60 [some (.ref 36), some (.int x1), some (.int x2), some (.int x3), some (.int x4), none] [] σ
          obtain ⟨g3, hf⟩ := gd_some hf
          refine h.run (o := [kd 36 = 6, kd 52 = 10, inb x4 (alen 52) = true]) (ls' := [some (.ref 36), some (.int x1), some (.int x2), some (.int x3), some (.int x4), none]) (st' := [.int (σ.1 52 x4.toNatClampNeg)]) (σ' := σ) [(.aload_n 0, 1, 0, 0, 0, 0), (.getfield 65, 3, 0, 0, 6, 21), (.iload 4, 2, 0, 0, 0, 0), (.iaload, 1, 0, 0, 0, 0), (.goto 18, 3, 0, 0, 0, 85)] (pc2 := 85) (by decide +kernel) rfl (And.intro kd_36 (And.intro kd_52 (And.intro g3 trivial))) ?_
          exact wX6_sumCame_85 hm ih hf
      · rw [if_pos c6] at hf
        show V 45 [some (.ref 36), some (.int x1), some (.int x2), some (.int x3), some (.int x4), none] [] σ
        obtain ⟨g5, hf⟩ := gd_some hf
        refine h.run (o := [kd 36 = 6, kd 51 = 10, inb x4 (alen 51) = true]) (ls' := [some (.ref 36), some (.int x1), some (.int x2), some (.int x3), some (.int x4), none]) (st' := [.int (σ.1 51 x4.toNatClampNeg)]) (σ' := σ) [(.aload_n 0, 1, 0, 0, 0, 0), (.getfield 62, 3, 0, 0, 6, 20), (.iload 4, 2, 0, 0, 0, 0), (.iaload, 1, 0, 0, 0, 0), (.goto 33, 3, 0, 0, 0, 85)] (pc2 := 85) (by decide +kernel) rfl (And.intro kd_36 (And.intro kd_51 (And.intro g5 trivial))) ?_
        exact wX6_sumCame_85 hm ih hf
def fX6_sumCame (x1 : Int32) (x2 : Int32) (σ : ST) : Option (Int32 × ST) :=
  bR (fX6_isReturner x1 (setI σ 36 23 0)) fun a1 =>
  if a1 = 0 then
    fX6_sumCame_25 (setI σ 36 23 0)
  else
    bR (fX6_in x2.toInt64 0 2 (setI σ 36 23 0)) fun a2 =>
    if a2 = 0 then
      fX6_sumCame_25 (setI σ 36 23 0)
    else
      fX6_sumCame_32 FU x1 x2 0 0 (setI σ 36 23 0)
set_option maxHeartbeats 4000000 in
theorem kmX6_sumCame (l : Launch) {x1 : Int32} {x2 : Int32} {σ : ST} {r : Int32} {τ : ST} (hf : fX6_sumCame x1 x2 σ = some (r, τ)) : KM l yX6_sumCame cX6_sumCame 6 (some .int) 2 46 [.ref 36, .int x1, .int x2] σ (some (.int r)) τ := by
  refine KM.intro (ow := 6) (by decide +kernel) rfl (Nat.le_of_ble_eq_true rfl) (fun V hm => ?_)
  show V 0 [some (.ref 36), some (.int x1), some (.int x2), none, none, none] [] σ
  have h := hm.bd
  unfold fX6_sumCame at hf
  refine h.run (o := [kd 36 = 6]) (ls' := [some (.ref 36), some (.int x1), some (.int x2), none, none, none]) (st' := [.int x1, .ref 36]) (σ' := setI σ 36 23 0) [(.aload_n 0, 1, 0, 0, 0, 0), (.iconst 0, 1, 0, 0, 0, 0), (.putfield 112, 3, 0, 0, 6, 23), (.aload_n 0, 1, 0, 0, 0, 0), (.iload_n 1, 1, 0, 0, 0, 0)] (pc2 := 7) (by decide +kernel) rfl (And.intro kd_36 trivial) ?_
  obtain ⟨a1, e1, hf⟩ := bR_some hf
  refine h.callV (as := [.int x1]) (rest := []) (by decide +kernel) lk6_188 cwX6_isReturner kd_36 (kmX6_isReturner l e1) rfl (Nat.le_of_ble_eq_true rfl) (Nat.le_of_ble_eq_true rfl) (Nat.le_of_ble_eq_true rfl) ?_
  show V 10 [some (.ref 36), some (.int x1), some (.int x2), none, none, none] [.int a1] (setI σ 36 23 0)
  refine h.if_eq (tgt := 25) (show decode cX6_sumCame 10 = .ok (.ifCond .eq 15, 3) by decide +kernel) (by decide) (fun c4 => ?_) (fun c4 => ?_)
  · rw [if_pos c4] at hf
    refine h.drop (ls' := [none, none, none, none, none, none]) trivial ?_
    exact wX6_sumCame_25 hm hf
  · rw [if_neg c4] at hf
    show V 13 [some (.ref 36), some (.int x1), some (.int x2), none, none, none] [] (setI σ 36 23 0)
    refine h.run (o := []) (ls' := [some (.ref 36), some (.int x1), some (.int x2), none, none, none]) (st' := [.long 2, .long 0, .long x2.toInt64]) (σ' := setI σ 36 23 0) [(.iload_n 2, 1, 0, 0, 0, 0), (.i2l, 1, 0, 0, 0, 0), (.lconst 0, 1, 0, 0, 0, 0), (.ldc2_w 186, 3, 0, 2, 0, 0)] (pc2 := 19) (by decide +kernel) rfl trivial ?_
    obtain ⟨a2, e2, hf⟩ := bR_some hf
    refine h.callS (as := [.long x2.toInt64, .long 0, .long 2]) (rest := []) (by decide +kernel) lk6_119 cwX6_in (kmX6_in l e2) rfl (Nat.le_of_ble_eq_true rfl) (Nat.le_of_ble_eq_true rfl) (Nat.le_of_ble_eq_true rfl) ?_
    show V 22 [some (.ref 36), some (.int x1), some (.int x2), none, none, none] [.int a2] (setI σ 36 23 0)
    refine h.if_ne (tgt := 27) (show decode cX6_sumCame 22 = .ok (.ifCond .ne 5, 3) by decide +kernel) (by decide) (fun c3 => ?_) (fun c3 => ?_)
    · rw [if_neg c3] at hf
      refine h.run (o := []) (ls' := [some (.ref 36), some (.int x1), some (.int x2), some (.int 0), some (.int 0), none]) (st' := []) (σ' := setI σ 36 23 0) [(.iconst 0, 1, 0, 0, 0, 0), (.istore_n 3, 1, 0, 0, 0, 0), (.iconst 0, 1, 0, 0, 0, 0), (.istore 4, 2, 0, 0, 0, 0)] (pc2 := 32) (by decide +kernel) rfl trivial ?_
      exact wX6_sumCame_32 hm FU x1 x2 0 0 _ hf
    · rw [if_pos c3] at hf
      show V 25 [some (.ref 36), some (.int x1), some (.int x2), none, none, none] [] (setI σ 36 23 0)
      refine h.drop (ls' := [none, none, none, none, none, none]) trivial ?_
      exact wX6_sumCame_25 hm hf
def fX6_judge_146 (kt_57 : Int32 → Int64 → Int32 → ST → Option (Int32 × ST)) (x1 : Int32) (x2 : Int64) (x4 : Int32) (σ : ST) : Option (Int32 × ST) :=
  kt_57 x1 x2 (x4 + 1) σ
set_option maxHeartbeats 4000000 in
theorem wX6_judge_146 {l : Launch} {V : Nat → List (Option Value) → List Value → ST → Prop} {r : Int32} {τ : ST} {σ : ST} {x1 : Int32} {x2 : Int64} {x4 : Int32} {kt_57 : Int32 → Int64 → Int32 → ST → Option (Int32 × ST)} (hm : BM l 6 cX6_judge 9 (some .int) 2 46 (some (.int r)) τ V) (hkt_57 : ∀ (x1 : Int32) (x2 : Int64) (x4 : Int32) (σ : ST), kt_57 x1 x2 x4 σ = some (r, τ) → V 57 [some (.ref 36), some (.int x1), some (.long x2), none, some (.int x4), none, none, none, none] [] σ) (hf : fX6_judge_146 kt_57 x1 x2 x4 σ = some (r, τ)) : V 146 [some (.ref 36), some (.int x1), some (.long x2), none, some (.int x4), none, none, none, none] [] σ := by
  have h := hm.bd
  unfold fX6_judge_146 at hf
  refine h.run (o := []) (ls' := [some (.ref 36), some (.int x1), some (.long x2), none, some (.int (x4 + 1)), none, none, none, none]) (st' := []) (σ' := σ) [(.iinc 4 1, 3, 1, 0, 0, 0), (.goto (-92), 3, 0, 0, 0, 57)] (pc2 := 57) (by decide +kernel) rfl trivial ?_
  exact hkt_57 x1 x2 (x4 + 1) _ hf
def fX6_judge_126 (kt_57 : Int32 → Int64 → Int32 → ST → Option (Int32 × ST)) (x1 : Int32) (x2 : Int64) (x4 : Int32) (x5 : Int64) (t0 : Int64) (σ : ST) : Option (Int32 × ST) :=
  if (lg_cmp x5 x2) = 0 then
    fX6_judge_146 kt_57 x1 x2 x4 σ
  else
    if (lg_cmp x5 t0) = 0 then
      fX6_judge_146 kt_57 x1 x2 x4 σ
    else
      some (x4, σ)
set_option maxHeartbeats 4000000 in
theorem wX6_judge_126 {l : Launch} {V : Nat → List (Option Value) → List Value → ST → Prop} {r : Int32} {τ : ST} {σ : ST} {x1 : Int32} {x2 : Int64} {x4 : Int32} {x5 : Int64} {t0 : Int64} {kt_57 : Int32 → Int64 → Int32 → ST → Option (Int32 × ST)} (hm : BM l 6 cX6_judge 9 (some .int) 2 46 (some (.int r)) τ V) (hkt_57 : ∀ (x1 : Int32) (x2 : Int64) (x4 : Int32) (σ : ST), kt_57 x1 x2 x4 σ = some (r, τ) → V 57 [some (.ref 36), some (.int x1), some (.long x2), none, some (.int x4), none, none, none, none] [] σ) (hf : fX6_judge_126 kt_57 x1 x2 x4 x5 t0 σ = some (r, τ)) : V 126 [some (.ref 36), some (.int x1), some (.long x2), none, some (.int x4), some (.long x5), none, none, none] [.long t0] σ := by
  have h := hm.bd
  unfold fX6_judge_126 at hf
  refine h.run (o := []) (ls' := [some (.ref 36), some (.int x1), some (.long x2), none, some (.int x4), some (.long x5), none, some (.long t0), none]) (st' := [.int (lg_cmp x5 x2)]) (σ' := σ) [(.lstore 7, 2, 0, 0, 0, 0), (.lload 5, 2, 0, 0, 0, 0), (.lload_n 2, 1, 0, 0, 0, 0), (.lcmp, 1, 0, 0, 0, 0)] (pc2 := 132) (by decide +kernel) rfl trivial ?_
  refine h.if_eq (tgt := 146) (show decode cX6_judge 132 = .ok (.ifCond .eq 14, 3) by decide +kernel) (by decide) (fun c2 => ?_) (fun c2 => ?_)
  · rw [if_pos c2] at hf
    refine h.drop (ls' := [some (.ref 36), some (.int x1), some (.long x2), none, some (.int x4), none, none, none, none]) (And.intro rfl (And.intro rfl (And.intro rfl (And.intro rfl trivial)))) ?_
    exact wX6_judge_146 hm hkt_57 hf
  · rw [if_neg c2] at hf
    show V 135 [some (.ref 36), some (.int x1), some (.long x2), none, some (.int x4), some (.long x5), none, some (.long t0), none] [] σ
    refine h.run (o := []) (ls' := [some (.ref 36), some (.int x1), some (.long x2), none, some (.int x4), some (.long x5), none, some (.long t0), none]) (st' := [.int (lg_cmp x5 t0)]) (σ' := σ) [(.lload 5, 2, 0, 0, 0, 0), (.lload 7, 2, 0, 0, 0, 0), (.lcmp, 1, 0, 0, 0, 0)] (pc2 := 140) (by decide +kernel) rfl trivial ?_
    refine h.if_eq (tgt := 146) (show decode cX6_judge 140 = .ok (.ifCond .eq 6, 3) by decide +kernel) (by decide) (fun c1 => ?_) (fun c1 => ?_)
    · rw [if_pos c1] at hf
      refine h.drop (ls' := [some (.ref 36), some (.int x1), some (.long x2), none, some (.int x4), none, none, none, none]) (And.intro rfl (And.intro rfl (And.intro rfl (And.intro rfl trivial)))) ?_
      exact wX6_judge_146 hm hkt_57 hf
    · rw [if_neg c1] at hf
      show V 143 [some (.ref 36), some (.int x1), some (.long x2), none, some (.int x4), some (.long x5), none, some (.long t0), none] [] σ
      refine h.run (o := []) (ls' := [some (.ref 36), some (.int x1), some (.long x2), none, some (.int x4), some (.long x5), none, some (.long t0), none]) (st' := [.int x4]) (σ' := σ) [(.iload 4, 2, 0, 0, 0, 0)] (pc2 := 145) (by decide +kernel) rfl trivial ?_
      obtain ⟨rfl, rfl⟩ := Prod.mk.inj (Option.some.inj hf)
      exact hm.iret (by decide +kernel)
def fX6_judge_57 (n : Nat) (x1 : Int32) (x2 : Int64) (x4 : Int32) (σ : ST) : Option (Int32 × ST) := match n with
  | 0 => none
  | n + 1 =>
    gd (inb x1 (alen 64)) <|
    if (σ.1 64 x1.toNatClampNeg) ≤ x4 then
      some ((-4), σ)
    else
      if x4 = (2 * (σ.1 36 16)) then
        some (x4, σ)
      else
        gd (inb ((100 * x1) + x4) (alen 65)) <|
        if (x4 - x4 / 2 * 2) = 0 then
          gd (inb (x4 / 2) (alen 50)) <|
          fX6_judge_126 (fX6_judge_57 n) x1 x2 x4 (σ.2 65 (((100 * x1) + x4).toNatClampNeg)) ((σ.1 50 ((x4 / 2).toNatClampNeg)).toInt64) σ
        else
          gd (inb (x4 / 2) (alen 52)) <|
          fX6_judge_126 (fX6_judge_57 n) x1 x2 x4 (σ.2 65 (((100 * x1) + x4).toNatClampNeg)) ((σ.1 52 ((x4 / 2).toNatClampNeg)).toInt64) σ
set_option maxHeartbeats 4000000 in
theorem wX6_judge_57 {l : Launch} {V : Nat → List (Option Value) → List Value → ST → Prop} {r : Int32} {τ : ST} (hm : BM l 6 cX6_judge 9 (some .int) 2 46 (some (.int r)) τ V) : ∀ (n : Nat) (x1 : Int32) (x2 : Int64) (x4 : Int32) (σ : ST), fX6_judge_57 n x1 x2 x4 σ = some (r, τ) → V 57 [some (.ref 36), some (.int x1), some (.long x2), none, some (.int x4), none, none, none, none] [] σ := by
  have h := hm.bd
  intro n
  induction n with
  | zero => intro x1 x2 x4 σ hf; cases hf
  | succ n ih =>
    intro x1 x2 x4 σ hf
    rw [fX6_judge_57] at hf
    obtain ⟨g1, hf⟩ := gd_some hf
    refine h.run (o := [kd 36 = 6, kd 64 = 10, inb x1 (alen 64) = true]) (ls' := [some (.ref 36), some (.int x1), some (.long x2), none, some (.int x4), none, none, none, none]) (st' := [.int (σ.1 64 x1.toNatClampNeg), .int x4]) (σ' := σ) [(.iload 4, 2, 0, 0, 0, 0), (.aload_n 0, 1, 0, 0, 0, 0), (.getfield 102, 3, 0, 0, 6, 44), (.iload_n 1, 1, 0, 0, 0, 0), (.iaload, 1, 0, 0, 0, 0)] (pc2 := 65) (by decide +kernel) rfl (And.intro kd_36 (And.intro kd_64 (And.intro g1 trivial))) ?_
    refine h.icmp_ge (tgt := 152) (show decode cX6_judge 65 = .ok (.if_icmp .ge 87, 3) by decide +kernel) (by decide) (fun c7 => ?_) (fun c7 => ?_)
    · rw [if_pos c7] at hf
      refine h.run (o := []) (ls' := [some (.ref 36), some (.int x1), some (.long x2), none, some (.int x4), none, none, none, none]) (st' := [.int (-4)]) (σ' := σ) [(.bipush (-4), 2, (-4), 0, 0, 0)] (pc2 := 154) (by decide +kernel) rfl trivial ?_
      obtain ⟨rfl, rfl⟩ := Prod.mk.inj (Option.some.inj hf)
      exact hm.iret (by decide +kernel)
    · rw [if_neg c7] at hf
      show V 68 [some (.ref 36), some (.int x1), some (.long x2), none, some (.int x4), none, none, none, none] [] σ
      refine h.run (o := [kd 36 = 6]) (ls' := [some (.ref 36), some (.int x1), some (.long x2), none, some (.int x4), none, none, none, none]) (st' := [.int (2 * (σ.1 36 16)), .int x4]) (σ' := σ) [(.iload 4, 2, 0, 0, 0, 0), (.iconst 2, 1, 2, 0, 0, 0), (.aload_n 0, 1, 0, 0, 0, 0), (.getfield 166, 3, 0, 0, 6, 16), (.imul, 1, 0, 0, 0, 0)] (pc2 := 76) (by decide +kernel) rfl (And.intro kd_36 trivial) ?_
      refine h.icmp_ne (tgt := 82) (show decode cX6_judge 76 = .ok (.if_icmp .ne 6, 3) by decide +kernel) (by decide) (fun c6 => ?_) (fun c6 => ?_)
      · rw [if_neg c6] at hf
        obtain ⟨g2, hf⟩ := gd_some hf
        refine h.run (o := [kd 36 = 6, kd 65 = 12, inb ((100 * x1) + x4) (alen 65) = true, ¬ 2 = 0]) (ls' := [some (.ref 36), some (.int x1), some (.long x2), none, some (.int x4), some (.long (σ.2 65 (((100 * x1) + x4).toNatClampNeg))), none, none, none]) (st' := [.int (x4 - x4 / 2 * 2)]) (σ' := σ) [(.aload_n 0, 1, 0, 0, 0, 0), (.getfield 105, 3, 0, 0, 6, 45), (.bipush 100, 2, 100, 0, 0, 0), (.iload_n 1, 1, 0, 0, 0, 0), (.imul, 1, 0, 0, 0, 0), (.iload 4, 2, 0, 0, 0, 0), (.iadd, 1, 0, 0, 0, 0), (.laload, 1, 0, 0, 0, 0), (.lstore 5, 2, 0, 0, 0, 0), (.iload 4, 2, 0, 0, 0, 0), (.iconst 2, 1, 2, 0, 0, 0), (.irem, 1, 0, 0, 0, 0)] (pc2 := 100) (by decide +kernel) rfl (And.intro kd_36 (And.intro kd_65 (And.intro g2 (And.intro (by decide) trivial)))) ?_
        refine h.if_ne (tgt := 116) (show decode cX6_judge 100 = .ok (.ifCond .ne 16, 3) by decide +kernel) (by decide) (fun c5 => ?_) (fun c5 => ?_)
        · rw [if_neg c5] at hf
          obtain ⟨g3, hf⟩ := gd_some hf
          refine h.run (o := [kd 36 = 6, ¬ 2 = 0, kd 52 = 10, inb (x4 / 2) (alen 52) = true]) (ls' := [some (.ref 36), some (.int x1), some (.long x2), none, some (.int x4), some (.long (σ.2 65 (((100 * x1) + x4).toNatClampNeg))), none, none, none]) (st' := [.long ((σ.1 52 ((x4 / 2).toNatClampNeg)).toInt64)]) (σ' := σ) [(.aload_n 0, 1, 0, 0, 0, 0), (.getfield 65, 3, 0, 0, 6, 21), (.iload 4, 2, 0, 0, 0, 0), (.iconst 2, 1, 2, 0, 0, 0), (.idiv, 1, 0, 0, 0, 0), (.iaload, 1, 0, 0, 0, 0), (.i2l, 1, 0, 0, 0, 0)] (pc2 := 126) (by decide +kernel) rfl (And.intro kd_36 (And.intro (by decide) (And.intro kd_52 (And.intro g3 trivial)))) ?_
          exact wX6_judge_126 hm ih hf
        · rw [if_pos c5] at hf
          show V 103 [some (.ref 36), some (.int x1), some (.long x2), none, some (.int x4), some (.long (σ.2 65 (((100 * x1) + x4).toNatClampNeg))), none, none, none] [] σ
          obtain ⟨g4, hf⟩ := gd_some hf
          refine h.run (o := [kd 36 = 6, ¬ 2 = 0, kd 50 = 10, inb (x4 / 2) (alen 50) = true]) (ls' := [some (.ref 36), some (.int x1), some (.long x2), none, some (.int x4), some (.long (σ.2 65 (((100 * x1) + x4).toNatClampNeg))), none, none, none]) (st' := [.long ((σ.1 50 ((x4 / 2).toNatClampNeg)).toInt64)]) (σ' := σ) [(.aload_n 0, 1, 0, 0, 0, 0), (.getfield 59, 3, 0, 0, 6, 19), (.iload 4, 2, 0, 0, 0, 0), (.iconst 2, 1, 2, 0, 0, 0), (.idiv, 1, 0, 0, 0, 0), (.iaload, 1, 0, 0, 0, 0), (.i2l, 1, 0, 0, 0, 0), (.goto 13, 3, 0, 0, 0, 126)] (pc2 := 126) (by decide +kernel) rfl (And.intro kd_36 (And.intro (by decide) (And.intro kd_50 (And.intro g4 trivial)))) ?_
          exact wX6_judge_126 hm ih hf
      · rw [if_pos c6] at hf
        show V 79 [some (.ref 36), some (.int x1), some (.long x2), none, some (.int x4), none, none, none, none] [] σ
        refine h.run (o := []) (ls' := [some (.ref 36), some (.int x1), some (.long x2), none, some (.int x4), none, none, none, none]) (st' := [.int x4]) (σ' := σ) [(.iload 4, 2, 0, 0, 0, 0)] (pc2 := 81) (by decide +kernel) rfl trivial ?_
        obtain ⟨rfl, rfl⟩ := Prod.mk.inj (Option.some.inj hf)
        exact hm.iret (by decide +kernel)
def fX6_judge_53 (x1 : Int32) (t0 : Int64) (σ : ST) : Option (Int32 × ST) :=
  fX6_judge_57 FU x1 t0 0 σ
set_option maxHeartbeats 4000000 in
theorem wX6_judge_53 {l : Launch} {V : Nat → List (Option Value) → List Value → ST → Prop} {r : Int32} {τ : ST} {σ : ST} {x1 : Int32} {t0 : Int64} (hm : BM l 6 cX6_judge 9 (some .int) 2 46 (some (.int r)) τ V) (hf : fX6_judge_53 x1 t0 σ = some (r, τ)) : V 53 [some (.ref 36), some (.int x1), none, none, none, none, none, none, none] [.long t0] σ := by
  have h := hm.bd
  unfold fX6_judge_53 at hf
  refine h.run (o := []) (ls' := [some (.ref 36), some (.int x1), some (.long t0), none, some (.int 0), none, none, none, none]) (st' := []) (σ' := σ) [(.lstore_n 2, 1, 0, 0, 0, 0), (.iconst 0, 1, 0, 0, 0, 0), (.istore 4, 2, 0, 0, 0, 0)] (pc2 := 57) (by decide +kernel) rfl trivial ?_
  exact wX6_judge_57 hm FU x1 t0 0 _ hf
def fX6_judge (x1 : Int32) (σ : ST) : Option (Int32 × ST) :=
  bR (fX6_wrongRow x1 (setI σ 36 23 0)) fun a1 =>
  if 0 ≤ a1 then
    gd (inb x1 (alen 63)) <|
    if ((setI σ 36 23 0).1 63 x1.toNatClampNeg) = 0 then
      fX6_judge_53 x1 (-128) (setI σ 36 23 0)
    else
      gd (inb x1 (alen 63)) <|
      if ((setI σ 36 23 0).1 63 x1.toNatClampNeg) = 1 then
        fX6_judge_53 x1 (-32768) (setI σ 36 23 0)
      else
        fX6_judge_53 x1 (-2147483648) (setI σ 36 23 0)
  else
    bR (fX6_wrongRow x1 (setI σ 36 23 0)) fun a6 =>
    some (a6, setI σ 36 23 0)
set_option maxHeartbeats 4000000 in
theorem kmX6_judge (l : Launch) {x1 : Int32} {σ : ST} {r : Int32} {τ : ST} (hf : fX6_judge x1 σ = some (r, τ)) : KM l yX6_judge cX6_judge 9 (some .int) 2 46 [.ref 36, .int x1] σ (some (.int r)) τ := by
  refine KM.intro (ow := 6) (by decide +kernel) rfl (Nat.le_of_ble_eq_true rfl) (fun V hm => ?_)
  show V 0 [some (.ref 36), some (.int x1), none, none, none, none, none, none, none] [] σ
  have h := hm.bd
  unfold fX6_judge at hf
  refine h.run (o := [kd 36 = 6]) (ls' := [some (.ref 36), some (.int x1), none, none, none, none, none, none, none]) (st' := [.int x1, .ref 36]) (σ' := setI σ 36 23 0) [(.aload_n 0, 1, 0, 0, 0, 0), (.iconst 0, 1, 0, 0, 0, 0), (.putfield 112, 3, 0, 0, 6, 23), (.aload_n 0, 1, 0, 0, 0, 0), (.iload_n 1, 1, 0, 0, 0, 0)] (pc2 := 7) (by decide +kernel) rfl (And.intro kd_36 trivial) ?_
  obtain ⟨a1, e1, hf⟩ := bR_some hf
  refine h.callV (as := [.int x1]) (rest := []) (by decide +kernel) lk6_171 cwX6_wrongRow kd_36 (kmX6_wrongRow l e1) rfl (Nat.le_of_ble_eq_true rfl) (Nat.le_of_ble_eq_true rfl) (Nat.le_of_ble_eq_true rfl) ?_
  show V 10 [some (.ref 36), some (.int x1), none, none, none, none, none, none, none] [.int a1] (setI σ 36 23 0)
  refine h.if_ge (tgt := 19) (show decode cX6_judge 10 = .ok (.ifCond .ge 9, 3) by decide +kernel) (by decide) (fun c7 => ?_) (fun c7 => ?_)
  · rw [if_pos c7] at hf
    obtain ⟨g2, hf⟩ := gd_some hf
    refine h.run (o := [kd 36 = 6, kd 63 = 10, inb x1 (alen 63) = true]) (ls' := [some (.ref 36), some (.int x1), none, none, none, none, none, none, none]) (st' := [.int ((setI σ 36 23 0).1 63 x1.toNatClampNeg)]) (σ' := setI σ 36 23 0) [(.aload_n 0, 1, 0, 0, 0, 0), (.getfield 99, 3, 0, 0, 6, 43), (.iload_n 1, 1, 0, 0, 0, 0), (.iaload, 1, 0, 0, 0, 0)] (pc2 := 25) (by decide +kernel) rfl (And.intro kd_36 (And.intro kd_63 (And.intro g2 trivial))) ?_
    refine h.if_ne (tgt := 34) (show decode cX6_judge 25 = .ok (.ifCond .ne 9, 3) by decide +kernel) (by decide) (fun c5 => ?_) (fun c5 => ?_)
    · rw [if_neg c5] at hf
      obtain ⟨g3, hf⟩ := gd_some hf
      refine h.run (o := [kd 36 = 6, kd 63 = 10, inb x1 (alen 63) = true]) (ls' := [some (.ref 36), some (.int x1), none, none, none, none, none, none, none]) (st' := [.int 1, .int ((setI σ 36 23 0).1 63 x1.toNatClampNeg)]) (σ' := setI σ 36 23 0) [(.aload_n 0, 1, 0, 0, 0, 0), (.getfield 99, 3, 0, 0, 6, 43), (.iload_n 1, 1, 0, 0, 0, 0), (.iaload, 1, 0, 0, 0, 0), (.iconst 1, 1, 1, 0, 0, 0)] (pc2 := 41) (by decide +kernel) rfl (And.intro kd_36 (And.intro kd_63 (And.intro g3 trivial))) ?_
      refine h.icmp_ne (tgt := 50) (show decode cX6_judge 41 = .ok (.if_icmp .ne 9, 3) by decide +kernel) (by decide) (fun c4 => ?_) (fun c4 => ?_)
      · rw [if_neg c4] at hf
        refine h.run (o := []) (ls' := [some (.ref 36), some (.int x1), none, none, none, none, none, none, none]) (st' := [.long (-2147483648)]) (σ' := setI σ 36 23 0) [(.ldc2_w 236, 3, 0, (-2147483648), 0, 0)] (pc2 := 53) (by decide +kernel) rfl trivial ?_
        exact wX6_judge_53 hm hf
      · rw [if_pos c4] at hf
        show V 44 [some (.ref 36), some (.int x1), none, none, none, none, none, none, none] [] (setI σ 36 23 0)
        refine h.run (o := []) (ls' := [some (.ref 36), some (.int x1), none, none, none, none, none, none, none]) (st' := [.long (-32768)]) (σ' := setI σ 36 23 0) [(.ldc2_w 234, 3, 0, (-32768), 0, 0), (.goto 6, 3, 0, 0, 0, 53)] (pc2 := 53) (by decide +kernel) rfl trivial ?_
        exact wX6_judge_53 hm hf
    · rw [if_pos c5] at hf
      show V 28 [some (.ref 36), some (.int x1), none, none, none, none, none, none, none] [] (setI σ 36 23 0)
      refine h.run (o := []) (ls' := [some (.ref 36), some (.int x1), none, none, none, none, none, none, none]) (st' := [.long (-128)]) (σ' := setI σ 36 23 0) [(.ldc2_w 232, 3, 0, (-128), 0, 0), (.goto 22, 3, 0, 0, 0, 53)] (pc2 := 53) (by decide +kernel) rfl trivial ?_
      exact wX6_judge_53 hm hf
  · rw [if_neg c7] at hf
    show V 13 [some (.ref 36), some (.int x1), none, none, none, none, none, none, none] [] (setI σ 36 23 0)
    refine h.run (o := []) (ls' := [some (.ref 36), some (.int x1), none, none, none, none, none, none, none]) (st' := [.int x1, .ref 36]) (σ' := setI σ 36 23 0) [(.aload_n 0, 1, 0, 0, 0, 0), (.iload_n 1, 1, 0, 0, 0, 0)] (pc2 := 15) (by decide +kernel) rfl trivial ?_
    obtain ⟨a6, e6, hf⟩ := bR_some hf
    refine h.callV (as := [.int x1]) (rest := []) (by decide +kernel) lk6_171 cwX6_wrongRow kd_36 (kmX6_wrongRow l e6) rfl (Nat.le_of_ble_eq_true rfl) (Nat.le_of_ble_eq_true rfl) (Nat.le_of_ble_eq_true rfl) ?_
    show V 18 [some (.ref 36), some (.int x1), none, none, none, none, none, none, none] [.int a6] (setI σ 36 23 0)
    obtain ⟨rfl, rfl⟩ := Prod.mk.inj (Option.some.inj hf)
    exact hm.iret (by decide +kernel)
