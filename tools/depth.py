import subprocess,re,sys,collections
out=subprocess.run("cd ${CLASSES:-/tmp/linkhouse} && javap -p -c LinkHouse*.class",shell=True,capture_output=True,text=True).stdout
calls=collections.defaultdict(set); cur=None; cls=None; size={}
fields=collections.defaultdict(list); priv={}
for line in out.split('\n'):
    m=re.match(r'(?:public |final |abstract |static |private )*(?:class|interface) (\S+)',line)
    if m and not line.startswith(' '): cls=m.group(1).rstrip('{').strip(); continue
    m=re.match(r'  (.*?)(\S+)\((.*)\);$',line)
    if m and not line.startswith('    '):
        n=m.group(2); n='<init>' if n.replace('LinkHouse$','') ==cls.replace('LinkHouse$','') or n==cls else n
        cur=cls+'.'+n+'('+str(len([x for x in m.group(3).split(',') if x.strip()]))+')'
        size[cur]=0; priv[cur]=m.group(1); continue
    m=re.match(r'  ((?:\S+ )+)(\S+);$',line)
    if m and '(' not in line: fields[cls].append((m.group(1),m.group(2))); continue
    m=re.match(r'\s+(\d+): (\S+)\s',line)
    if m and cur: size[cur]=int(m.group(1))
    m=re.search(r'// (?:Interface)?Method (\S+):\((.*?)\)',line)
    if m and cur:
        t=m.group(1).replace('"','')
        if '.' not in t: t=cls+'.'+t
        # param count
        ps=re.findall(r'\[*(?:L[^;]+;|[A-Z])',m.group(2))
        if t.startswith('LinkHouse'): calls[cur].add(t+'('+str(len(ps))+')')
nodes=set(size)
# SCC
sys.setrecursionlimit(10000)
idx={};low={};st=[];on=set();sccs={};c=[0]
def sc(v):
    idx[v]=low[v]=c[0];c[0]+=1;st.append(v);on.add(v)
    for w in calls[v]:
        if w not in nodes: continue
        if w not in idx: sc(w);low[v]=min(low[v],low[w])
        elif w in on: low[v]=min(low[v],idx[w])
    if low[v]==idx[v]:
        comp=[]
        while True:
            w=st.pop();on.discard(w);comp.append(w)
            if w==v:break
        for w in comp:sccs[w]=tuple(comp)
for v in nodes:
    if v not in idx: sc(v)
memo={}
def depth(s):
    if s in memo:return memo[s]
    best=(1,(s,))
    for v in s:
        for w in calls[v]:
            if w in nodes and sccs[w]!=s:
                d=depth(sccs[w])
                if d[0]+1>best[0]:best=(d[0]+1,(s,)+d[1])
    memo[s]=best;return best
res=sorted(((depth(sccs[v])[0],v) for v in nodes if v.startswith('LinkHouse.')),reverse=True)
for d,v in res[:14]:
    print(d,v,' > '.join((x[0] if len(x)==1 else 'SCC[%d]%s'%(len(x),x[0])).replace('LinkHouse$','').replace('LinkHouse.','') for x in depth(sccs[v])[1]))
print('SCCs:',[ [y.replace('LinkHouse$','') for y in x] for x in set(sccs.values()) if len(x)>1 or x[0] in calls[x[0]]])
for k,v in fields.items():
    n=len([1 for f in v if 'static' not in f[0]]); print(k,'fields',n)
print(len(fields),'classes')
pub=set(v.split('.')[1].split('(')[0] for v in nodes if v.startswith('LinkHouse.') and 'public' in priv[v])
for v in nodes:
    n=v.split('.')[1].split('(')[0]
    if 'public' not in priv[v] and n in pub and n!='<init>' and n!='LinkHouse': print('NAME CLASH',v)
for v in nodes:
    if v not in [w for c in calls.values() for w in c] and 'public' not in priv[v]: print('uncalled',v)
