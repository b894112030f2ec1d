def kt_tgs : List Nat := [272, 335, 358, 371, 394, 437, 470, 503, 556, 599, 622, 655, 688, 721, 774, 827, 850, 863, 876, 899, 922, 945, 968, 991, 1024, 1047, 1080, 1113, 1146, 1189, 1242, 1275, 1308, 1341, 1374, 1397, 1430, 1463, 1496, 1529, 1552, 1605, 1638, 1671, 1714, 1767, 1800, 1823, 1846, 1879, 1922, 1945, 1968, 1991, 2034, 2107, 2170]
def kt_chk (only : List Nat) : Bool := match kc_run kt_T 20000 0 (kt_tgs.filter (fun q => !only.contains q)) [(33, kt_S1)] [] with
  | some os => os.all (fun o => (kt_tgs.filter (fun q => !only.contains q)).contains o.1 || decide (o.2.2.2.1 = [(1, 0, 1)]))
  | none => false
