set_option maxRecDepth 100000 in
theorem zq10000 : hc231.1 10000 = cells A0 G0 ev0 10000 := rfl
set_option maxRecDepth 100000 in
theorem zq2000 : hc231.1 2000 = cells A0 G0 ev0 2000 := rfl
set_option maxRecDepth 100000 in
theorem zq20000 : hc231.1 20000 = cells A0 G0 ev0 20000 := rfl
set_option maxRecDepth 100000 in
theorem zq20001 : hc231.1 20001 = cells A0 G0 ev0 20001 := rfl
set_option maxRecDepth 100000 in
theorem zq20002 : hc231.1 20002 = cells A0 G0 ev0 20002 := rfl
set_option maxRecDepth 100000 in
theorem zq20003 : hc231.1 20003 = cells A0 G0 ev0 20003 := rfl
set_option maxRecDepth 100000 in
theorem zq1000 : hc231.1 1000 = cells A0 G0 ev0 1000 := rfl
set_option maxRecDepth 100000 in
theorem zq20004 : hc231.1 20004 = cells A0 G0 ev0 20004 := rfl
set_option maxRecDepth 100000 in
theorem zq20005 : hc231.1 20005 = cells A0 G0 ev0 20005 := rfl
set_option maxRecDepth 100000 in
theorem zq20006 : hc231.1 20006 = cells A0 G0 ev0 20006 := rfl
set_option maxRecDepth 100000 in
theorem zq4000 : hc231.1 4000 = cells A0 G0 ev0 4000 := rfl
set_option maxRecDepth 100000 in
theorem zq20007 : hc231.1 20007 = cells A0 G0 ev0 20007 := rfl
set_option maxRecDepth 100000 in
theorem zq4001 : hc231.1 4001 = cells A0 G0 ev0 4001 := rfl
set_option maxRecDepth 100000 in
theorem zq20008 : hc231.1 20008 = cells A0 G0 ev0 20008 := rfl
set_option maxRecDepth 100000 in
theorem zq9000 : hc231.1 9000 = cells A0 G0 ev0 9000 := rfl
set_option maxRecDepth 100000 in
theorem zq20009 : hc231.1 20009 = cells A0 G0 ev0 20009 := rfl
set_option maxRecDepth 100000 in
theorem zq20010 : hc231.1 20010 = cells A0 G0 ev0 20010 := rfl
set_option maxRecDepth 100000 in
theorem zq20011 : hc231.1 20011 = cells A0 G0 ev0 20011 := rfl
set_option maxRecDepth 100000 in
theorem zq20012 : hc231.1 20012 = cells A0 G0 ev0 20012 := rfl
set_option maxRecDepth 100000 in
theorem zq20013 : hc231.1 20013 = cells A0 G0 ev0 20013 := rfl
set_option maxRecDepth 100000 in
theorem zq20014 : hc231.1 20014 = cells A0 G0 ev0 20014 := rfl
set_option maxRecDepth 100000 in
theorem zq6000 : hc231.1 6000 = cells A0 G0 ev0 6000 := rfl
set_option maxRecDepth 100000 in
theorem zq20015 : hc231.1 20015 = cells A0 G0 ev0 20015 := rfl
set_option maxRecDepth 100000 in
theorem zq20016 : hc231.1 20016 = cells A0 G0 ev0 20016 := rfl
set_option maxRecDepth 100000 in
theorem zq20017 : hc231.1 20017 = cells A0 G0 ev0 20017 := rfl
set_option maxRecDepth 100000 in
theorem zq5000 : hc231.1 5000 = cells A0 G0 ev0 5000 := rfl
set_option maxRecDepth 100000 in
theorem zq20018 : hc231.1 20018 = cells A0 G0 ev0 20018 := rfl
set_option maxRecDepth 100000 in
theorem zq20019 : hc231.1 20019 = cells A0 G0 ev0 20019 := rfl
set_option maxRecDepth 100000 in
theorem zq0 : hc231.1 0 = cells A0 G0 ev0 0 := rfl
set_option maxRecDepth 100000 in
theorem zq20020 : hc231.1 20020 = cells A0 G0 ev0 20020 := rfl
set_option maxRecDepth 100000 in
theorem zq20021 : hc231.1 20021 = cells A0 G0 ev0 20021 := rfl
set_option maxRecDepth 100000 in
theorem zq8000 : hc231.1 8000 = cells A0 G0 ev0 8000 := rfl
set_option maxRecDepth 100000 in
theorem zq20022 : hc231.1 20022 = cells A0 G0 ev0 20022 := rfl
set_option maxRecDepth 100000 in
theorem zq8001 : hc231.1 8001 = cells A0 G0 ev0 8001 := rfl
set_option maxRecDepth 100000 in
theorem zq20023 : hc231.1 20023 = cells A0 G0 ev0 20023 := rfl
set_option maxRecDepth 100000 in
theorem zq8002 : hc231.1 8002 = cells A0 G0 ev0 8002 := rfl
set_option maxRecDepth 100000 in
theorem zq20024 : hc231.1 20024 = cells A0 G0 ev0 20024 := rfl
set_option maxRecDepth 100000 in
theorem zq8003 : hc231.1 8003 = cells A0 G0 ev0 8003 := rfl
set_option maxRecDepth 100000 in
theorem zq20025 : hc231.1 20025 = cells A0 G0 ev0 20025 := rfl
set_option maxRecDepth 100000 in
theorem zq8004 : hc231.1 8004 = cells A0 G0 ev0 8004 := rfl
set_option maxRecDepth 100000 in
theorem zq20026 : hc231.1 20026 = cells A0 G0 ev0 20026 := rfl
set_option maxRecDepth 100000 in
theorem zq8005 : hc231.1 8005 = cells A0 G0 ev0 8005 := rfl
set_option maxRecDepth 100000 in
theorem zq20027 : hc231.1 20027 = cells A0 G0 ev0 20027 := rfl
set_option maxRecDepth 100000 in
theorem zq11000 : hc231.1 11000 = cells A0 G0 ev0 11000 := rfl
set_option maxRecDepth 100000 in
theorem zq20028 : hc231.1 20028 = cells A0 G0 ev0 20028 := rfl
set_option maxRecDepth 100000 in
theorem zq20029 : hc231.1 20029 = cells A0 G0 ev0 20029 := rfl
set_option maxRecDepth 100000 in
theorem zq20030 : hc231.1 20030 = cells A0 G0 ev0 20030 := rfl
set_option maxRecDepth 100000 in
theorem zq20031 : hc231.1 20031 = cells A0 G0 ev0 20031 := rfl
set_option maxRecDepth 100000 in
theorem zq20032 : hc231.1 20032 = cells A0 G0 ev0 20032 := rfl
set_option maxRecDepth 100000 in
theorem zq20033 : hc231.1 20033 = cells A0 G0 ev0 20033 := rfl
set_option maxRecDepth 100000 in
theorem zq20034 : hc231.1 20034 = cells A0 G0 ev0 20034 := rfl
set_option maxRecDepth 100000 in
theorem zq20035 : hc231.1 20035 = cells A0 G0 ev0 20035 := rfl
set_option maxRecDepth 100000 in
theorem zq20036 : hc231.1 20036 = cells A0 G0 ev0 20036 := rfl
set_option maxRecDepth 100000 in
theorem zq20037 : hc231.1 20037 = cells A0 G0 ev0 20037 := rfl
set_option maxRecDepth 100000 in
theorem zq20038 : hc231.1 20038 = cells A0 G0 ev0 20038 := rfl
set_option maxRecDepth 100000 in
theorem zq20039 : hc231.1 20039 = cells A0 G0 ev0 20039 := rfl
set_option maxRecDepth 100000 in
theorem zq20040 : hc231.1 20040 = cells A0 G0 ev0 20040 := rfl
set_option maxRecDepth 100000 in
theorem zq20041 : hc231.1 20041 = cells A0 G0 ev0 20041 := rfl
set_option maxRecDepth 100000 in
theorem zq20042 : hc231.1 20042 = cells A0 G0 ev0 20042 := rfl
set_option maxRecDepth 100000 in
theorem zq20043 : hc231.1 20043 = cells A0 G0 ev0 20043 := rfl
set_option maxRecDepth 100000 in
theorem zq20044 : hc231.1 20044 = cells A0 G0 ev0 20044 := rfl
set_option maxRecDepth 100000 in
theorem zq20045 : hc231.1 20045 = cells A0 G0 ev0 20045 := rfl
set_option maxRecDepth 100000 in
theorem zq20046 : hc231.1 20046 = cells A0 G0 ev0 20046 := rfl
set_option maxRecDepth 100000 in
theorem zq20047 : hc231.1 20047 = cells A0 G0 ev0 20047 := rfl
set_option maxRecDepth 100000 in
theorem zq20048 : hc231.1 20048 = cells A0 G0 ev0 20048 := rfl
set_option maxRecDepth 100000 in
theorem zq20049 : hc231.1 20049 = cells A0 G0 ev0 20049 := rfl
set_option maxRecDepth 100000 in
theorem zq20050 : hc231.1 20050 = cells A0 G0 ev0 20050 := rfl
set_option maxRecDepth 100000 in
theorem zq20051 : hc231.1 20051 = cells A0 G0 ev0 20051 := rfl
set_option maxRecDepth 100000 in
theorem zq20052 : hc231.1 20052 = cells A0 G0 ev0 20052 := rfl
set_option maxRecDepth 100000 in
theorem zq20053 : hc231.1 20053 = cells A0 G0 ev0 20053 := rfl
set_option maxRecDepth 100000 in
theorem zq20054 : hc231.1 20054 = cells A0 G0 ev0 20054 := rfl
set_option maxRecDepth 100000 in
theorem zq20055 : hc231.1 20055 = cells A0 G0 ev0 20055 := rfl
set_option maxRecDepth 100000 in
theorem zq20056 : hc231.1 20056 = cells A0 G0 ev0 20056 := rfl
set_option maxRecDepth 100000 in
theorem zq20057 : hc231.1 20057 = cells A0 G0 ev0 20057 := rfl
set_option maxRecDepth 100000 in
theorem zq20058 : hc231.1 20058 = cells A0 G0 ev0 20058 := rfl
set_option maxRecDepth 100000 in
theorem zq20059 : hc231.1 20059 = cells A0 G0 ev0 20059 := rfl
set_option maxRecDepth 100000 in
theorem zq20060 : hc231.1 20060 = cells A0 G0 ev0 20060 := rfl
set_option maxRecDepth 100000 in
theorem zq20061 : hc231.1 20061 = cells A0 G0 ev0 20061 := rfl
set_option maxRecDepth 100000 in
theorem zq20062 : hc231.1 20062 = cells A0 G0 ev0 20062 := rfl
set_option maxRecDepth 100000 in
theorem zq20063 : hc231.1 20063 = cells A0 G0 ev0 20063 := rfl
set_option maxRecDepth 100000 in
theorem zq20064 : hc231.1 20064 = cells A0 G0 ev0 20064 := rfl
set_option maxRecDepth 100000 in
theorem zq20065 : hc231.1 20065 = cells A0 G0 ev0 20065 := rfl
set_option maxRecDepth 100000 in
theorem zq20066 : hc231.1 20066 = cells A0 G0 ev0 20066 := rfl
set_option maxRecDepth 100000 in
theorem zq20067 : hc231.1 20067 = cells A0 G0 ev0 20067 := rfl
set_option maxRecDepth 100000 in
theorem zq20068 : hc231.1 20068 = cells A0 G0 ev0 20068 := rfl
