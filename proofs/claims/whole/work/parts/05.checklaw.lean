set_option maxRecDepth 100000 in
theorem ck_202_0 : (List.range' 0 150).all (chk 202) = true := by decide +kernel
set_option maxRecDepth 100000 in
theorem ck_202_150 : (List.range' 150 150).all (chk 202) = true := by decide +kernel
set_option maxRecDepth 100000 in
theorem ck_202_300 : (List.range' 300 150).all (chk 202) = true := by decide +kernel
set_option maxRecDepth 100000 in
theorem ck_202_450 : (List.range' 450 150).all (chk 202) = true := by decide +kernel
set_option maxRecDepth 100000 in
theorem ck_202_600 : (List.range' 600 150).all (chk 202) = true := by decide +kernel
set_option maxRecDepth 100000 in
theorem ck_202_750 : (List.range' 750 150).all (chk 202) = true := by decide +kernel
set_option maxRecDepth 100000 in
theorem ck_202_900 : (List.range' 900 150).all (chk 202) = true := by decide +kernel
set_option maxRecDepth 100000 in
theorem ck_202_1050 : (List.range' 1050 102).all (chk 202) = true := by decide +kernel
